section
-- ===== PART A: goes FIRST, ahead of the names: the tables' words, and 'selects' of the private methods out of them =====
/-- a private method of a class that the tables say can be made, by its rows of tables_1 -/
def lw_okq (q : MethodName × Nat) : Prop := (q.1.cls ≠ "java/lang/invoke/MethodHandle" ∧ q.1.cls ≠ "java/lang/invoke/VarHandle") ∧ Cond.instantiable q.1.cls q.2 ∈ tables_1 ∧ Cond.privateMethod q.1 ∈ tables_1 ∧ Cond.instanceMethod q.1 ∈ tables_1
theorem lw_p0 : lw_okq (⟨"LeachRows", "isLayer", "(I)Z"⟩, 18) := ⟨⟨by decide +kernel, by decide +kernel⟩, List.mem_of_getElem? (i := 8) (by decide +kernel), List.mem_of_getElem? (i := 103) (by decide +kernel), List.mem_of_getElem? (i := 104) (by decide +kernel)⟩
theorem lw_p1 : lw_okq (⟨"LeachRows", "areDaysToRun", "(I)Z"⟩, 18) := ⟨⟨by decide +kernel, by decide +kernel⟩, List.mem_of_getElem? (i := 8) (by decide +kernel), List.mem_of_getElem? (i := 142) (by decide +kernel), List.mem_of_getElem? (i := 143) (by decide +kernel)⟩
theorem lw_p2 : lw_okq (⟨"LeachRows", "runNextDay", "()V"⟩, 18) := ⟨⟨by decide +kernel, by decide +kernel⟩, List.mem_of_getElem? (i := 8) (by decide +kernel), List.mem_of_getElem? (i := 153) (by decide +kernel), List.mem_of_getElem? (i := 154) (by decide +kernel)⟩
theorem lw_p3 : lw_okq (⟨"LeachRows", "comeIn", "(J)V"⟩, 18) := ⟨⟨by decide +kernel, by decide +kernel⟩, List.mem_of_getElem? (i := 8) (by decide +kernel), List.mem_of_getElem? (i := 157) (by decide +kernel), List.mem_of_getElem? (i := 158) (by decide +kernel)⟩
theorem lw_p4 : lw_okq (⟨"LeachRows", "passDown", "()J"⟩, 18) := ⟨⟨by decide +kernel, by decide +kernel⟩, List.mem_of_getElem? (i := 8) (by decide +kernel), List.mem_of_getElem? (i := 164) (by decide +kernel), List.mem_of_getElem? (i := 165) (by decide +kernel)⟩
theorem lw_p5 : lw_okq (⟨"LeachRows", "fillTank", "(J)V"⟩, 18) := ⟨⟨by decide +kernel, by decide +kernel⟩, List.mem_of_getElem? (i := 8) (by decide +kernel), List.mem_of_getElem? (i := 171) (by decide +kernel), List.mem_of_getElem? (i := 172) (by decide +kernel)⟩
theorem lw_p6 : lw_okq (⟨"LeachRows", "clean", "()J"⟩, 18) := ⟨⟨by decide +kernel, by decide +kernel⟩, List.mem_of_getElem? (i := 8) (by decide +kernel), List.mem_of_getElem? (i := 175) (by decide +kernel), List.mem_of_getElem? (i := 176) (by decide +kernel)⟩
theorem lw_p7 : lw_okq (⟨"LeachRows", "partAtTheEnd", "(J)J"⟩, 18) := ⟨⟨by decide +kernel, by decide +kernel⟩, List.mem_of_getElem? (i := 8) (by decide +kernel), List.mem_of_getElem? (i := 182) (by decide +kernel), List.mem_of_getElem? (i := 183) (by decide +kernel)⟩
theorem lw_p8 : lw_okq (⟨"LeachRows", "dayThatPasses", "(I)I"⟩, 18) := ⟨⟨by decide +kernel, by decide +kernel⟩, List.mem_of_getElem? (i := 8) (by decide +kernel), List.mem_of_getElem? (i := 207) (by decide +kernel), List.mem_of_getElem? (i := 208) (by decide +kernel)⟩
theorem lw_p9 : lw_okq (⟨"LeachRows", "dayUpToWhichMeanPasses", "(I)I"⟩, 18) := ⟨⟨by decide +kernel, by decide +kernel⟩, List.mem_of_getElem? (i := 8) (by decide +kernel), List.mem_of_getElem? (i := 211) (by decide +kernel), List.mem_of_getElem? (i := 212) (by decide +kernel)⟩
theorem lw_p10 : lw_okq (⟨"LeachRows$Well", "has", "(I)Z"⟩, 3) := ⟨⟨by decide +kernel, by decide +kernel⟩, List.mem_of_getElem? (i := 25) (by decide +kernel), List.mem_of_getElem? (i := 229) (by decide +kernel), List.mem_of_getElem? (i := 230) (by decide +kernel)⟩
theorem lw_p11 : lw_okq (⟨"LeachRows", "ordersAsFar", "(II)I"⟩, 18) := ⟨⟨by decide +kernel, by decide +kernel⟩, List.mem_of_getElem? (i := 8) (by decide +kernel), List.mem_of_getElem? (i := 248) (by decide +kernel), List.mem_of_getElem? (i := 249) (by decide +kernel)⟩
theorem lw_p12 : lw_okq (⟨"LeachRows", "countOrdersByFalls", "(I)V"⟩, 18) := ⟨⟨by decide +kernel, by decide +kernel⟩, List.mem_of_getElem? (i := 8) (by decide +kernel), List.mem_of_getElem? (i := 252) (by decide +kernel), List.mem_of_getElem? (i := 253) (by decide +kernel)⟩
theorem lw_p13 : lw_okq (⟨"LeachRows", "addValueToOrders", "(I)V"⟩, 18) := ⟨⟨by decide +kernel, by decide +kernel⟩, List.mem_of_getElem? (i := 8) (by decide +kernel), List.mem_of_getElem? (i := 256) (by decide +kernel), List.mem_of_getElem? (i := 257) (by decide +kernel)⟩
theorem lw_p14 : lw_okq (⟨"LeachRowsModel", "dayRuns", "()V"⟩, 22) := ⟨⟨by decide +kernel, by decide +kernel⟩, List.mem_of_getElem? (i := 275) (by decide +kernel), List.mem_of_getElem? (i := 397) (by decide +kernel), List.mem_of_getElem? (i := 398) (by decide +kernel)⟩
theorem lw_p15 : lw_okq (⟨"LeachRowsModel", "stagesRun", "()V"⟩, 22) := ⟨⟨by decide +kernel, by decide +kernel⟩, List.mem_of_getElem? (i := 275) (by decide +kernel), List.mem_of_getElem? (i := 405) (by decide +kernel), List.mem_of_getElem? (i := 406) (by decide +kernel)⟩
def lw_privs_1 : List (MethodName × Nat) := [(⟨"LeachRows", "isLayer", "(I)Z"⟩, 18), (⟨"LeachRows", "areDaysToRun", "(I)Z"⟩, 18), (⟨"LeachRows", "runNextDay", "()V"⟩, 18), (⟨"LeachRows", "comeIn", "(J)V"⟩, 18), (⟨"LeachRows", "passDown", "()J"⟩, 18), (⟨"LeachRows", "fillTank", "(J)V"⟩, 18), (⟨"LeachRows", "clean", "()J"⟩, 18), (⟨"LeachRows", "partAtTheEnd", "(J)J"⟩, 18), (⟨"LeachRows", "dayThatPasses", "(I)I"⟩, 18), (⟨"LeachRows", "dayUpToWhichMeanPasses", "(I)I"⟩, 18), (⟨"LeachRows$Well", "has", "(I)Z"⟩, 3), (⟨"LeachRows", "ordersAsFar", "(II)I"⟩, 18), (⟨"LeachRows", "countOrdersByFalls", "(I)V"⟩, 18), (⟨"LeachRows", "addValueToOrders", "(I)V"⟩, 18), (⟨"LeachRowsModel", "dayRuns", "()V"⟩, 22), (⟨"LeachRowsModel", "stagesRun", "()V"⟩, 22)]
theorem lw_r1 : ∀ q ∈ lw_privs_1, lw_okq q := List.forall_mem_cons.mpr ⟨lw_p0, List.forall_mem_cons.mpr ⟨lw_p1, List.forall_mem_cons.mpr ⟨lw_p2, List.forall_mem_cons.mpr ⟨lw_p3, List.forall_mem_cons.mpr ⟨lw_p4, List.forall_mem_cons.mpr ⟨lw_p5, List.forall_mem_cons.mpr ⟨lw_p6, List.forall_mem_cons.mpr ⟨lw_p7, List.forall_mem_cons.mpr ⟨lw_p8, List.forall_mem_cons.mpr ⟨lw_p9, List.forall_mem_cons.mpr ⟨lw_p10, List.forall_mem_cons.mpr ⟨lw_p11, List.forall_mem_cons.mpr ⟨lw_p12, List.forall_mem_cons.mpr ⟨lw_p13, List.forall_mem_cons.mpr ⟨lw_p14, List.forall_mem_cons.mpr ⟨lw_p15, fun _ h => absurd h List.not_mem_nil⟩⟩⟩⟩⟩⟩⟩⟩⟩⟩⟩⟩⟩⟩⟩⟩
theorem lw_p16 : lw_okq (⟨"LeachRowsModel", "countOrders", "(I)V"⟩, 22) := ⟨⟨by decide +kernel, by decide +kernel⟩, List.mem_of_getElem? (i := 275) (by decide +kernel), List.mem_of_getElem? (i := 448) (by decide +kernel), List.mem_of_getElem? (i := 449) (by decide +kernel)⟩
def lw_privs_2 : List (MethodName × Nat) := [(⟨"LeachRowsModel", "countOrders", "(I)V"⟩, 22)]
theorem lw_r2 : ∀ q ∈ lw_privs_2, lw_okq q := List.forall_mem_cons.mpr ⟨lw_p16, fun _ h => absurd h List.not_mem_nil⟩
def lw_privs : List (MethodName × Nat) := lw_privs_1 ++ (lw_privs_2)
def lw_tbl : List Cond := k2_sels lw_privs ++ tables_1
theorem lw_privs_ok : ∀ q ∈ lw_privs, lw_okq q := by
  show ∀ q ∈ lw_privs_1 ++ (lw_privs_2), lw_okq q
  exact List.forall_mem_append.mpr ⟨lw_r1, lw_r2⟩
end
section
def RX0 : String := "LeachRows"
def TX0 : u_T := fun k => match k with
  | 0 => ("LeachRows", "water", "[J", true)
  | 1 => ("LeachRows", "holds", "[I", true)
  | 2 => ("LeachRows", "passes", "[I", true)
  | 3 => ("LeachRows", "rates", "[I", true)
  | 4 => ("LeachRows", "keeps", "[I", true)
  | 5 => ("LeachRows", "rains", "[I", true)
  | 6 => ("LeachRows", "outflows", "[J", true)
  | 7 => ("LeachRows", "sums", "[J", true)
  | 8 => ("LeachRows", "wells", "[LLeachRows$Well;", true)
  | 9 => ("LeachRows", "ordersByFalls", "[I", true)
  | 10 => ("LeachRows", "coverParts", "I", false)
  | 11 => ("LeachRows", "drainParts", "I", false)
  | 12 => ("LeachRows", "returnParts", "I", false)
  | 13 => ("LeachRows", "tankRoom", "J", false)
  | 14 => ("LeachRows", "stageCount", "I", false)
  | 15 => ("LeachRows", "nextDay", "I", false)
  | 16 => ("LeachRows", "dayLimit", "J", false)
  | _ => ("LeachRows", "meanLimit", "J", false)
def tyX0 : Nat → FieldType := fun k => match k with
  | 0 => .array .long
  | 1 => .array .int
  | 2 => .array .int
  | 3 => .array .int
  | 4 => .array .int
  | 5 => .array .int
  | 6 => .array .long
  | 7 => .array .long
  | 8 => .array (.object "LeachRows$Well")
  | 9 => .array .int
  | 10 => .int
  | 11 => .int
  | 12 => .int
  | 13 => .long
  | 14 => .int
  | 15 => .int
  | 16 => .long
  | _ => .long
theorem nm_X0 : ∀ a, a < 18 → ∀ b, b < 18 → a ≠ b → (TX0 a).2.1 ≠ (TX0 b).2.1 := by decide +kernel
theorem tyok_X0 : ∀ k, k < 18 → parseFieldDescriptor (TX0 k).2.2.1 = some (tyX0 k) := by decide +kernel
def RX1 : String := "LeachRows$Well"
def TX1 : u_T := fun k => match k with
  | 0 => ("LeachRows$Well", "values", "[I", true)
  | 1 => ("LeachRows$Well", "count", "I", false)
  | _ => ("LeachRows$Well", "lastDay", "I", false)
def tyX1 : Nat → FieldType := fun k => match k with
  | 0 => .array .int
  | 1 => .int
  | _ => .int
theorem nm_X1 : ∀ a, a < 3 → ∀ b, b < 3 → a ≠ b → (TX1 a).2.1 ≠ (TX1 b).2.1 := by decide +kernel
theorem tyok_X1 : ∀ k, k < 3 → parseFieldDescriptor (TX1 k).2.2.1 = some (tyX1 k) := by decide +kernel
def RX2 : String := "LeachRowsModel"
def TX2 : u_T := fun k => match k with
  | 0 => ("LeachRowsModel", "layers", "I", true)
  | 1 => ("LeachRowsModel", "waters", "[J", true)
  | 2 => ("LeachRowsModel", "holds", "[I", true)
  | 3 => ("LeachRowsModel", "passes", "[I", true)
  | 4 => ("LeachRowsModel", "cover", "I", false)
  | 5 => ("LeachRowsModel", "drain", "I", false)
  | 6 => ("LeachRowsModel", "back", "I", false)
  | 7 => ("LeachRowsModel", "room", "J", false)
  | 8 => ("LeachRowsModel", "stages", "I", false)
  | 9 => ("LeachRowsModel", "rates", "[I", true)
  | 10 => ("LeachRowsModel", "keeps", "[I", true)
  | 11 => ("LeachRowsModel", "rains", "[I", true)
  | 12 => ("LeachRowsModel", "next", "I", false)
  | 13 => ("LeachRowsModel", "all", "[J", true)
  | 14 => ("LeachRowsModel", "outflows", "[J", true)
  | 15 => ("LeachRowsModel", "dayLimit", "J", false)
  | 16 => ("LeachRowsModel", "meanLimit", "J", false)
  | 17 => ("LeachRowsModel", "counts", "[I", true)
  | 18 => ("LeachRowsModel", "sampleDays", "[I", true)
  | 19 => ("LeachRowsModel", "values", "[I", true)
  | 20 => ("LeachRowsModel", "orders", "[J", true)
  | _ => ("LeachRowsModel", "more", "[J", true)
def tyX2 : Nat → FieldType := fun k => match k with
  | 0 => .int
  | 1 => .array .long
  | 2 => .array .int
  | 3 => .array .int
  | 4 => .int
  | 5 => .int
  | 6 => .int
  | 7 => .long
  | 8 => .int
  | 9 => .array .int
  | 10 => .array .int
  | 11 => .array .int
  | 12 => .int
  | 13 => .array .long
  | 14 => .array .long
  | 15 => .long
  | 16 => .long
  | 17 => .array .int
  | 18 => .array .int
  | 19 => .array .int
  | 20 => .array .long
  | _ => .array .long
theorem nm_X2 : ∀ a, a < 22 → ∀ b, b < 22 → a ≠ b → (TX2 a).2.1 ≠ (TX2 b).2.1 := by decide +kernel
theorem tyok_X2 : ∀ k, k < 22 → parseFieldDescriptor (TX2 k).2.2.1 = some (tyX2 k) := by decide +kernel
def RL : String := "LeachRowsLaw"
abbrev vwCl : List vw_C := [(RX0, TX0, 18), (RX1, TX1, 3), (RX2, TX2, 22)]
abbrev cX0_init : ByteArray := prog_1_method_1_code
def yX0_init : MethodName := ⟨RX0, "<init>", "(I)V"⟩
abbrev cX0_within : ByteArray := prog_1_method_19_code
def yX0_within : MethodName := ⟨RX0, "within", "(JJJ)Z"⟩
abbrev cJ_fill : ByteArray := prog_7_method_103_code
def yJ_fill : MethodName := ⟨"java/util/Arrays", "fill", "([II)V"⟩
abbrev cX1_init : ByteArray := prog_2_method_1_code
def yX1_init : MethodName := ⟨RX1, "<init>", "()V"⟩
abbrev cX0_layer : ByteArray := prog_1_method_2_code
def yX0_layer : MethodName := ⟨RX0, "layer", "(III)Z"⟩
abbrev cX0_isLayer : ByteArray := prog_1_method_22_code
def yX0_isLayer : MethodName := ⟨RX0, "isLayer", "(I)Z"⟩
abbrev cX0_isParts : ByteArray := prog_1_method_20_code
def yX0_isParts : MethodName := ⟨RX0, "isParts", "(I)Z"⟩
abbrev cX0_cover : ByteArray := prog_1_method_3_code
def yX0_cover : MethodName := ⟨RX0, "cover", "(I)Z"⟩
abbrev cX0_drain : ByteArray := prog_1_method_4_code
def yX0_drain : MethodName := ⟨RX0, "drain", "(I)Z"⟩
abbrev cX0_back : ByteArray := prog_1_method_5_code
def yX0_back : MethodName := ⟨RX0, "back", "(I)Z"⟩
abbrev cX0_tank : ByteArray := prog_1_method_6_code
def yX0_tank : MethodName := ⟨RX0, "tank", "(J)Z"⟩
abbrev cX0_stage : ByteArray := prog_1_method_7_code
def yX0_stage : MethodName := ⟨RX0, "stage", "(II)I"⟩
abbrev cX0_rain : ByteArray := prog_1_method_8_code
def yX0_rain : MethodName := ⟨RX0, "rain", "(II)Z"⟩
abbrev cX0_storm : ByteArray := prog_1_method_9_code
def yX0_storm : MethodName := ⟨RX0, "storm", "(JI)Z"⟩
abbrev cX0_areDaysToRun : ByteArray := prog_1_method_24_code
def yX0_areDaysToRun : MethodName := ⟨RX0, "areDaysToRun", "(I)Z"⟩
abbrev cX0_run : ByteArray := prog_1_method_10_code
def yX0_run : MethodName := ⟨RX0, "run", "(I)I"⟩
abbrev cX0_runNextDay : ByteArray := prog_1_method_25_code
def yX0_runNextDay : MethodName := ⟨RX0, "runNextDay", "()V"⟩
abbrev cX0_comeIn : ByteArray := prog_1_method_26_code
def yX0_comeIn : MethodName := ⟨RX0, "comeIn", "(J)V"⟩
abbrev cX0_partsOf : ByteArray := prog_1_method_21_code
def yX0_partsOf : MethodName := ⟨RX0, "partsOf", "(IJ)J"⟩
abbrev cX0_passDown : ByteArray := prog_1_method_27_code
def yX0_passDown : MethodName := ⟨RX0, "passDown", "()J"⟩
abbrev cX0_fillTank : ByteArray := prog_1_method_28_code
def yX0_fillTank : MethodName := ⟨RX0, "fillTank", "(J)V"⟩
abbrev cX0_clean : ByteArray := prog_1_method_29_code
def yX0_clean : MethodName := ⟨RX0, "clean", "()J"⟩
abbrev cX0_partAtTheEnd : ByteArray := prog_1_method_30_code
def yX0_partAtTheEnd : MethodName := ⟨RX0, "partAtTheEnd", "(J)J"⟩
abbrev cX0_held : ByteArray := prog_1_method_11_code
def yX0_held : MethodName := ⟨RX0, "held", "(I)J"⟩
abbrev cX0_out : ByteArray := prog_1_method_12_code
def yX0_out : MethodName := ⟨RX0, "out", "(I)J"⟩
abbrev cX0_balance : ByteArray := prog_1_method_13_code
def yX0_balance : MethodName := ⟨RX0, "balance", "()J"⟩
abbrev cX0_limit : ByteArray := prog_1_method_14_code
def yX0_limit : MethodName := ⟨RX0, "limit", "(JJ)Z"⟩
abbrev cX0_passed : ByteArray := prog_1_method_15_code
def yX0_passed : MethodName := ⟨RX0, "passed", "(II)I"⟩
abbrev cX0_dayThatPasses : ByteArray := prog_1_method_31_code
def yX0_dayThatPasses : MethodName := ⟨RX0, "dayThatPasses", "(I)I"⟩
abbrev cX0_dayUpToWhichMeanPasses : ByteArray := prog_1_method_32_code
def yX0_dayUpToWhichMeanPasses : MethodName := ⟨RX0, "dayUpToWhichMeanPasses", "(I)I"⟩
abbrev cX0_sample : ByteArray := prog_1_method_16_code
def yX0_sample : MethodName := ⟨RX0, "sample", "(III)I"⟩
abbrev cX0_isWell : ByteArray := prog_1_method_23_code
def yX0_isWell : MethodName := ⟨RX0, "isWell", "(I)Z"⟩
abbrev cX1_take : ByteArray := prog_2_method_2_code
def yX1_take : MethodName := ⟨RX1, "take", "(II)Z"⟩
abbrev cX1_has : ByteArray := prog_2_method_3_code
def yX1_has : MethodName := ⟨RX1, "has", "(I)Z"⟩
abbrev cX0_trend : ByteArray := prog_1_method_17_code
def yX0_trend : MethodName := ⟨RX0, "trend", "(I)I"⟩
abbrev cX1_risesLessFalls : ByteArray := prog_2_method_4_code
def yX1_risesLessFalls : MethodName := ⟨RX1, "risesLessFalls", "()I"⟩
abbrev cJ_compare : ByteArray := prog_5_method_40_code
def yJ_compare : MethodName := ⟨"java/lang/Integer", "compare", "(II)I"⟩
abbrev cX0_odds : ByteArray := prog_1_method_18_code
def yX0_odds : MethodName := ⟨RX0, "odds", "(II)I"⟩
abbrev cX0_ordersAsFar : ByteArray := prog_1_method_33_code
def yX0_ordersAsFar : MethodName := ⟨RX0, "ordersAsFar", "(II)I"⟩
abbrev cX0_countOrdersByFalls : ByteArray := prog_1_method_34_code
def yX0_countOrdersByFalls : MethodName := ⟨RX0, "countOrdersByFalls", "(I)V"⟩
abbrev cX0_addValueToOrders : ByteArray := prog_1_method_35_code
def yX0_addValueToOrders : MethodName := ⟨RX0, "addValueToOrders", "(I)V"⟩
abbrev cX0_ordersOf : ByteArray := prog_1_method_36_code
def yX0_ordersOf : MethodName := ⟨RX0, "ordersOf", "(I)I"⟩
abbrev cX0_commonDivisor : ByteArray := prog_1_method_37_code
def yX0_commonDivisor : MethodName := ⟨RX0, "commonDivisor", "(II)I"⟩
abbrev cL_cell : ByteArray := method_2_code
def yL_cell : MethodName := ⟨RL, "cell", "([II)I"⟩
abbrev cX2_init : ByteArray := prog_4_method_1_code
def yX2_init : MethodName := ⟨RX2, "<init>", "(I)V"⟩
abbrev cX2_layer : ByteArray := prog_4_method_5_code
def yX2_layer : MethodName := ⟨RX2, "layer", "(III)Z"⟩
abbrev cX2_isIn : ByteArray := prog_4_method_3_code
def yX2_isIn : MethodName := ⟨RX2, "isIn", "(JJJ)Z"⟩
abbrev cX2_isParts : ByteArray := prog_4_method_4_code
def yX2_isParts : MethodName := ⟨RX2, "isParts", "(I)Z"⟩
abbrev cX2_cover : ByteArray := prog_4_method_6_code
def yX2_cover : MethodName := ⟨RX2, "cover", "(I)Z"⟩
abbrev cX2_drain : ByteArray := prog_4_method_7_code
def yX2_drain : MethodName := ⟨RX2, "drain", "(I)Z"⟩
abbrev cX2_back : ByteArray := prog_4_method_8_code
def yX2_back : MethodName := ⟨RX2, "back", "(I)Z"⟩
abbrev cX2_tank : ByteArray := prog_4_method_9_code
def yX2_tank : MethodName := ⟨RX2, "tank", "(J)Z"⟩
abbrev cX2_stage : ByteArray := prog_4_method_10_code
def yX2_stage : MethodName := ⟨RX2, "stage", "(II)I"⟩
abbrev cX2_rain : ByteArray := prog_4_method_11_code
def yX2_rain : MethodName := ⟨RX2, "rain", "(II)Z"⟩
abbrev cX2_storm : ByteArray := prog_4_method_12_code
def yX2_storm : MethodName := ⟨RX2, "storm", "(JI)Z"⟩
abbrev cX2_run : ByteArray := prog_4_method_16_code
def yX2_run : MethodName := ⟨RX2, "run", "(I)I"⟩
abbrev cX2_dayRuns : ByteArray := prog_4_method_15_code
def yX2_dayRuns : MethodName := ⟨RX2, "dayRuns", "()V"⟩
abbrev cX2_partsOf : ByteArray := prog_4_method_13_code
def yX2_partsOf : MethodName := ⟨RX2, "partsOf", "(JI)J"⟩
abbrev cX2_stagesRun : ByteArray := prog_4_method_14_code
def yX2_stagesRun : MethodName := ⟨RX2, "stagesRun", "()V"⟩
abbrev cX2_held : ByteArray := prog_4_method_17_code
def yX2_held : MethodName := ⟨RX2, "held", "(I)J"⟩
abbrev cX2_out : ByteArray := prog_4_method_18_code
def yX2_out : MethodName := ⟨RX2, "out", "(I)J"⟩
abbrev cX2_balance : ByteArray := prog_4_method_19_code
def yX2_balance : MethodName := ⟨RX2, "balance", "()J"⟩
abbrev cX2_limit : ByteArray := prog_4_method_20_code
def yX2_limit : MethodName := ⟨RX2, "limit", "(JJ)Z"⟩
abbrev cX2_passed : ByteArray := prog_4_method_21_code
def yX2_passed : MethodName := ⟨RX2, "passed", "(II)I"⟩
abbrev cX2_sample : ByteArray := prog_4_method_23_code
def yX2_sample : MethodName := ⟨RX2, "sample", "(III)I"⟩
abbrev cX2_isWell : ByteArray := prog_4_method_22_code
def yX2_isWell : MethodName := ⟨RX2, "isWell", "(I)Z"⟩
abbrev cX2_trend : ByteArray := prog_4_method_24_code
def yX2_trend : MethodName := ⟨RX2, "trend", "(I)I"⟩
abbrev cX2_odds : ByteArray := prog_4_method_26_code
def yX2_odds : MethodName := ⟨RX2, "odds", "(II)I"⟩
abbrev cX2_countOrders : ByteArray := prog_4_method_25_code
def yX2_countOrders : MethodName := ⟨RX2, "countOrders", "(I)V"⟩
end
section
theorem dX0_init_0 : decode cX0_init 0 = .ok (.aload_n 0, 1) := by decide +kernel
theorem dX0_init_1 : decode cX0_init 1 = .ok (.invokespecial 3, 3) := by decide +kernel
theorem dX0_init_4 : decode cX0_init 4 = .ok (.aload_n 0, 1) := by decide +kernel
theorem dX0_init_5 : decode cX0_init 5 = .ok (.iconst 4, 1) := by decide +kernel
theorem dX0_init_6 : decode cX0_init 6 = .ok (.newarray .int, 2) := by decide +kernel
theorem dX0_init_8 : decode cX0_init 8 = .ok (.putfield 9, 3) := by decide +kernel
theorem dX0_init_11 : decode cX0_init 11 = .ok (.aload_n 0, 1) := by decide +kernel
theorem dX0_init_12 : decode cX0_init 12 = .ok (.iconst 4, 1) := by decide +kernel
theorem dX0_init_13 : decode cX0_init 13 = .ok (.newarray .int, 2) := by decide +kernel
theorem dX0_init_15 : decode cX0_init 15 = .ok (.putfield 13, 3) := by decide +kernel
theorem dX0_init_18 : decode cX0_init 18 = .ok (.aload_n 0, 1) := by decide +kernel
theorem dX0_init_19 : decode cX0_init 19 = .ok (.sipush 400, 3) := by decide +kernel
theorem dX0_init_22 : decode cX0_init 22 = .ok (.newarray .int, 2) := by decide +kernel
theorem dX0_init_24 : decode cX0_init 24 = .ok (.putfield 16, 3) := by decide +kernel
theorem dX0_init_27 : decode cX0_init 27 = .ok (.aload_n 0, 1) := by decide +kernel
theorem dX0_init_28 : decode cX0_init 28 = .ok (.sipush 400, 3) := by decide +kernel
theorem dX0_init_31 : decode cX0_init 31 = .ok (.newarray .long, 2) := by decide +kernel
theorem dX0_init_33 : decode cX0_init 33 = .ok (.putfield 19, 3) := by decide +kernel
theorem dX0_init_36 : decode cX0_init 36 = .ok (.aload_n 0, 1) := by decide +kernel
theorem dX0_init_37 : decode cX0_init 37 = .ok (.bipush 9, 2) := by decide +kernel
theorem dX0_init_39 : decode cX0_init 39 = .ok (.newarray .long, 2) := by decide +kernel
theorem dX0_init_41 : decode cX0_init 41 = .ok (.putfield 23, 3) := by decide +kernel
theorem dX0_init_44 : decode cX0_init 44 = .ok (.aload_n 0, 1) := by decide +kernel
theorem dX0_init_45 : decode cX0_init 45 = .ok (.iconst 4, 1) := by decide +kernel
theorem dX0_init_46 : decode cX0_init 46 = .ok (.anewarray 26, 3) := by decide +kernel
theorem dX0_init_49 : decode cX0_init 49 = .ok (.putfield 28, 3) := by decide +kernel
theorem dX0_init_52 : decode cX0_init 52 = .ok (.aload_n 0, 1) := by decide +kernel
theorem dX0_init_53 : decode cX0_init 53 = .ok (.bipush 29, 2) := by decide +kernel
theorem dX0_init_55 : decode cX0_init 55 = .ok (.newarray .int, 2) := by decide +kernel
theorem dX0_init_57 : decode cX0_init 57 = .ok (.putfield 32, 3) := by decide +kernel
theorem dX0_init_60 : decode cX0_init 60 = .ok (.aload_n 0, 1) := by decide +kernel
theorem dX0_init_61 : decode cX0_init 61 = .ok (.ldc2_w 35, 3) := by decide +kernel
theorem dX0_init_64 : decode cX0_init 64 = .ok (.putfield 37, 3) := by decide +kernel
theorem dX0_init_67 : decode cX0_init 67 = .ok (.aload_n 0, 1) := by decide +kernel
theorem dX0_init_68 : decode cX0_init 68 = .ok (.ldc2_w 35, 3) := by decide +kernel
theorem dX0_init_71 : decode cX0_init 71 = .ok (.putfield 41, 3) := by decide +kernel
theorem dX0_init_74 : decode cX0_init 74 = .ok (.iload_n 1, 1) := by decide +kernel
theorem dX0_init_75 : decode cX0_init 75 = .ok (.i2l, 1) := by decide +kernel
theorem dX0_init_76 : decode cX0_init 76 = .ok (.lconst 1, 1) := by decide +kernel
theorem dX0_init_77 : decode cX0_init 77 = .ok (.ldc2_w 44, 3) := by decide +kernel
theorem dX0_init_80 : decode cX0_init 80 = .ok (.invokestatic 46, 3) := by decide +kernel
theorem dX0_init_83 : decode cX0_init 83 = .ok (.ifCond .eq 7, 3) := by decide +kernel
theorem dX0_init_86 : decode cX0_init 86 = .ok (.iload_n 1, 1) := by decide +kernel
theorem dX0_init_87 : decode cX0_init 87 = .ok (.goto 4, 3) := by decide +kernel
theorem dX0_init_90 : decode cX0_init 90 = .ok (.iconst 1, 1) := by decide +kernel
theorem dX0_init_91 : decode cX0_init 91 = .ok (.istore_n 2, 1) := by decide +kernel
theorem dX0_init_92 : decode cX0_init 92 = .ok (.aload_n 0, 1) := by decide +kernel
theorem dX0_init_93 : decode cX0_init 93 = .ok (.iload_n 2, 1) := by decide +kernel
theorem dX0_init_94 : decode cX0_init 94 = .ok (.newarray .long, 2) := by decide +kernel
theorem dX0_init_96 : decode cX0_init 96 = .ok (.putfield 50, 3) := by decide +kernel
theorem dX0_init_99 : decode cX0_init 99 = .ok (.aload_n 0, 1) := by decide +kernel
theorem dX0_init_100 : decode cX0_init 100 = .ok (.iload_n 2, 1) := by decide +kernel
theorem dX0_init_101 : decode cX0_init 101 = .ok (.newarray .int, 2) := by decide +kernel
theorem dX0_init_103 : decode cX0_init 103 = .ok (.putfield 53, 3) := by decide +kernel
theorem dX0_init_106 : decode cX0_init 106 = .ok (.aload_n 0, 1) := by decide +kernel
theorem dX0_init_107 : decode cX0_init 107 = .ok (.iload_n 2, 1) := by decide +kernel
theorem dX0_init_108 : decode cX0_init 108 = .ok (.newarray .int, 2) := by decide +kernel
theorem dX0_init_110 : decode cX0_init 110 = .ok (.putfield 56, 3) := by decide +kernel
theorem dX0_init_113 : decode cX0_init 113 = .ok (.aload_n 0, 1) := by decide +kernel
theorem dX0_init_114 : decode cX0_init 114 = .ok (.getfield 56, 3) := by decide +kernel
theorem dX0_init_117 : decode cX0_init 117 = .ok (.sipush 1000, 3) := by decide +kernel
theorem dX0_init_120 : decode cX0_init 120 = .ok (.invokestatic 59, 3) := by decide +kernel
theorem dX0_init_123 : decode cX0_init 123 = .ok (.iconst 0, 1) := by decide +kernel
theorem dX0_init_124 : decode cX0_init 124 = .ok (.istore_n 3, 1) := by decide +kernel
theorem dX0_init_125 : decode cX0_init 125 = .ok (.iload_n 3, 1) := by decide +kernel
theorem dX0_init_126 : decode cX0_init 126 = .ok (.iconst 4, 1) := by decide +kernel
theorem dX0_init_127 : decode cX0_init 127 = .ok (.if_icmp .ge 22, 3) := by decide +kernel
theorem dX0_init_130 : decode cX0_init 130 = .ok (.aload_n 0, 1) := by decide +kernel
theorem dX0_init_131 : decode cX0_init 131 = .ok (.getfield 28, 3) := by decide +kernel
theorem dX0_init_134 : decode cX0_init 134 = .ok (.iload_n 3, 1) := by decide +kernel
theorem dX0_init_135 : decode cX0_init 135 = .ok (.new 26, 3) := by decide +kernel
theorem dX0_init_138 : decode cX0_init 138 = .ok (.dup, 1) := by decide +kernel
theorem dX0_init_139 : decode cX0_init 139 = .ok (.invokespecial 65, 3) := by decide +kernel
theorem dX0_init_142 : decode cX0_init 142 = .ok (.aastore, 1) := by decide +kernel
theorem dX0_init_143 : decode cX0_init 143 = .ok (.iinc 3 1, 3) := by decide +kernel
theorem dX0_init_146 : decode cX0_init 146 = .ok (.goto (-21), 3) := by decide +kernel
theorem dX0_init_149 : decode cX0_init 149 = .ok (.return_, 1) := by decide +kernel
theorem dX0_within_0 : decode cX0_within 0 = .ok (.lload_n 0, 1) := by decide +kernel
theorem dX0_within_1 : decode cX0_within 1 = .ok (.lload_n 2, 1) := by decide +kernel
theorem dX0_within_2 : decode cX0_within 2 = .ok (.lcmp, 1) := by decide +kernel
theorem dX0_within_3 : decode cX0_within 3 = .ok (.ifCond .lt 14, 3) := by decide +kernel
theorem dX0_within_6 : decode cX0_within 6 = .ok (.lload_n 0, 1) := by decide +kernel
theorem dX0_within_7 : decode cX0_within 7 = .ok (.lload 4, 2) := by decide +kernel
theorem dX0_within_9 : decode cX0_within 9 = .ok (.lcmp, 1) := by decide +kernel
theorem dX0_within_10 : decode cX0_within 10 = .ok (.ifCond .gt 7, 3) := by decide +kernel
theorem dX0_within_13 : decode cX0_within 13 = .ok (.iconst 1, 1) := by decide +kernel
theorem dX0_within_14 : decode cX0_within 14 = .ok (.goto 4, 3) := by decide +kernel
theorem dX0_within_17 : decode cX0_within 17 = .ok (.iconst 0, 1) := by decide +kernel
theorem dX0_within_18 : decode cX0_within 18 = .ok (.ireturn, 1) := by decide +kernel
theorem dX0_layer_0 : decode cX0_layer 0 = .ok (.aload_n 0, 1) := by decide +kernel
theorem dX0_layer_1 : decode cX0_layer 1 = .ok (.iload_n 1, 1) := by decide +kernel
theorem dX0_layer_2 : decode cX0_layer 2 = .ok (.invokevirtual 66, 3) := by decide +kernel
theorem dX0_layer_5 : decode cX0_layer 5 = .ok (.ifCond .eq 22, 3) := by decide +kernel
theorem dX0_layer_8 : decode cX0_layer 8 = .ok (.iload_n 2, 1) := by decide +kernel
theorem dX0_layer_9 : decode cX0_layer 9 = .ok (.i2l, 1) := by decide +kernel
theorem dX0_layer_10 : decode cX0_layer 10 = .ok (.lconst 0, 1) := by decide +kernel
theorem dX0_layer_11 : decode cX0_layer 11 = .ok (.ldc2_w 70, 3) := by decide +kernel
theorem dX0_layer_14 : decode cX0_layer 14 = .ok (.invokestatic 46, 3) := by decide +kernel
theorem dX0_layer_17 : decode cX0_layer 17 = .ok (.ifCond .eq 10, 3) := by decide +kernel
theorem dX0_layer_20 : decode cX0_layer 20 = .ok (.iload_n 3, 1) := by decide +kernel
theorem dX0_layer_21 : decode cX0_layer 21 = .ok (.invokestatic 72, 3) := by decide +kernel
theorem dX0_layer_24 : decode cX0_layer 24 = .ok (.ifCond .ne 5, 3) := by decide +kernel
theorem dX0_layer_27 : decode cX0_layer 27 = .ok (.iconst 0, 1) := by decide +kernel
theorem dX0_layer_28 : decode cX0_layer 28 = .ok (.ireturn, 1) := by decide +kernel
theorem dX0_layer_29 : decode cX0_layer 29 = .ok (.aload_n 0, 1) := by decide +kernel
theorem dX0_layer_30 : decode cX0_layer 30 = .ok (.getfield 53, 3) := by decide +kernel
theorem dX0_layer_33 : decode cX0_layer 33 = .ok (.iload_n 1, 1) := by decide +kernel
theorem dX0_layer_34 : decode cX0_layer 34 = .ok (.iload_n 2, 1) := by decide +kernel
theorem dX0_layer_35 : decode cX0_layer 35 = .ok (.iastore, 1) := by decide +kernel
theorem dX0_layer_36 : decode cX0_layer 36 = .ok (.aload_n 0, 1) := by decide +kernel
theorem dX0_layer_37 : decode cX0_layer 37 = .ok (.getfield 56, 3) := by decide +kernel
theorem dX0_layer_40 : decode cX0_layer 40 = .ok (.iload_n 1, 1) := by decide +kernel
theorem dX0_layer_41 : decode cX0_layer 41 = .ok (.iload_n 3, 1) := by decide +kernel
theorem dX0_layer_42 : decode cX0_layer 42 = .ok (.iastore, 1) := by decide +kernel
theorem dX0_layer_43 : decode cX0_layer 43 = .ok (.iconst 1, 1) := by decide +kernel
theorem dX0_layer_44 : decode cX0_layer 44 = .ok (.ireturn, 1) := by decide +kernel
theorem dX0_isLayer_0 : decode cX0_isLayer 0 = .ok (.iload_n 1, 1) := by decide +kernel
theorem dX0_isLayer_1 : decode cX0_isLayer 1 = .ok (.i2l, 1) := by decide +kernel
theorem dX0_isLayer_2 : decode cX0_isLayer 2 = .ok (.lconst 0, 1) := by decide +kernel
theorem dX0_isLayer_3 : decode cX0_isLayer 3 = .ok (.aload_n 0, 1) := by decide +kernel
theorem dX0_isLayer_4 : decode cX0_isLayer 4 = .ok (.getfield 50, 3) := by decide +kernel
theorem dX0_isLayer_7 : decode cX0_isLayer 7 = .ok (.arraylength, 1) := by decide +kernel
theorem dX0_isLayer_8 : decode cX0_isLayer 8 = .ok (.iconst 1, 1) := by decide +kernel
theorem dX0_isLayer_9 : decode cX0_isLayer 9 = .ok (.isub, 1) := by decide +kernel
theorem dX0_isLayer_10 : decode cX0_isLayer 10 = .ok (.i2l, 1) := by decide +kernel
theorem dX0_isLayer_11 : decode cX0_isLayer 11 = .ok (.invokestatic 46, 3) := by decide +kernel
theorem dX0_isLayer_14 : decode cX0_isLayer 14 = .ok (.ireturn, 1) := by decide +kernel
theorem dX0_isParts_0 : decode cX0_isParts 0 = .ok (.iload_n 0, 1) := by decide +kernel
theorem dX0_isParts_1 : decode cX0_isParts 1 = .ok (.i2l, 1) := by decide +kernel
theorem dX0_isParts_2 : decode cX0_isParts 2 = .ok (.lconst 0, 1) := by decide +kernel
theorem dX0_isParts_3 : decode cX0_isParts 3 = .ok (.ldc2_w 145, 3) := by decide +kernel
theorem dX0_isParts_6 : decode cX0_isParts 6 = .ok (.invokestatic 46, 3) := by decide +kernel
theorem dX0_isParts_9 : decode cX0_isParts 9 = .ok (.ireturn, 1) := by decide +kernel
theorem dX0_cover_0 : decode cX0_cover 0 = .ok (.iload_n 1, 1) := by decide +kernel
theorem dX0_cover_1 : decode cX0_cover 1 = .ok (.invokestatic 72, 3) := by decide +kernel
theorem dX0_cover_4 : decode cX0_cover 4 = .ok (.ifCond .ne 5, 3) := by decide +kernel
theorem dX0_cover_7 : decode cX0_cover 7 = .ok (.iconst 0, 1) := by decide +kernel
theorem dX0_cover_8 : decode cX0_cover 8 = .ok (.ireturn, 1) := by decide +kernel
theorem dX0_cover_9 : decode cX0_cover 9 = .ok (.aload_n 0, 1) := by decide +kernel
theorem dX0_cover_10 : decode cX0_cover 10 = .ok (.iload_n 1, 1) := by decide +kernel
theorem dX0_cover_11 : decode cX0_cover 11 = .ok (.putfield 75, 3) := by decide +kernel
theorem dX0_cover_14 : decode cX0_cover 14 = .ok (.iconst 1, 1) := by decide +kernel
theorem dX0_cover_15 : decode cX0_cover 15 = .ok (.ireturn, 1) := by decide +kernel
theorem dX0_drain_0 : decode cX0_drain 0 = .ok (.iload_n 1, 1) := by decide +kernel
theorem dX0_drain_1 : decode cX0_drain 1 = .ok (.invokestatic 72, 3) := by decide +kernel
theorem dX0_drain_4 : decode cX0_drain 4 = .ok (.ifCond .ne 5, 3) := by decide +kernel
theorem dX0_drain_7 : decode cX0_drain 7 = .ok (.iconst 0, 1) := by decide +kernel
theorem dX0_drain_8 : decode cX0_drain 8 = .ok (.ireturn, 1) := by decide +kernel
theorem dX0_drain_9 : decode cX0_drain 9 = .ok (.aload_n 0, 1) := by decide +kernel
theorem dX0_drain_10 : decode cX0_drain 10 = .ok (.iload_n 1, 1) := by decide +kernel
theorem dX0_drain_11 : decode cX0_drain 11 = .ok (.putfield 79, 3) := by decide +kernel
theorem dX0_drain_14 : decode cX0_drain 14 = .ok (.iconst 1, 1) := by decide +kernel
theorem dX0_drain_15 : decode cX0_drain 15 = .ok (.ireturn, 1) := by decide +kernel
theorem dX0_back_0 : decode cX0_back 0 = .ok (.iload_n 1, 1) := by decide +kernel
theorem dX0_back_1 : decode cX0_back 1 = .ok (.invokestatic 72, 3) := by decide +kernel
theorem dX0_back_4 : decode cX0_back 4 = .ok (.ifCond .ne 5, 3) := by decide +kernel
theorem dX0_back_7 : decode cX0_back 7 = .ok (.iconst 0, 1) := by decide +kernel
theorem dX0_back_8 : decode cX0_back 8 = .ok (.ireturn, 1) := by decide +kernel
theorem dX0_back_9 : decode cX0_back 9 = .ok (.aload_n 0, 1) := by decide +kernel
theorem dX0_back_10 : decode cX0_back 10 = .ok (.iload_n 1, 1) := by decide +kernel
theorem dX0_back_11 : decode cX0_back 11 = .ok (.putfield 82, 3) := by decide +kernel
theorem dX0_back_14 : decode cX0_back 14 = .ok (.iconst 1, 1) := by decide +kernel
theorem dX0_back_15 : decode cX0_back 15 = .ok (.ireturn, 1) := by decide +kernel
theorem dX0_tank_0 : decode cX0_tank 0 = .ok (.lload_n 1, 1) := by decide +kernel
theorem dX0_tank_1 : decode cX0_tank 1 = .ok (.lconst 0, 1) := by decide +kernel
theorem dX0_tank_2 : decode cX0_tank 2 = .ok (.ldc2_w 85, 3) := by decide +kernel
theorem dX0_tank_5 : decode cX0_tank 5 = .ok (.invokestatic 46, 3) := by decide +kernel
theorem dX0_tank_8 : decode cX0_tank 8 = .ok (.ifCond .ne 5, 3) := by decide +kernel
theorem dX0_tank_11 : decode cX0_tank 11 = .ok (.iconst 0, 1) := by decide +kernel
theorem dX0_tank_12 : decode cX0_tank 12 = .ok (.ireturn, 1) := by decide +kernel
theorem dX0_tank_13 : decode cX0_tank 13 = .ok (.aload_n 0, 1) := by decide +kernel
theorem dX0_tank_14 : decode cX0_tank 14 = .ok (.lload_n 1, 1) := by decide +kernel
theorem dX0_tank_15 : decode cX0_tank 15 = .ok (.putfield 87, 3) := by decide +kernel
theorem dX0_tank_18 : decode cX0_tank 18 = .ok (.iconst 1, 1) := by decide +kernel
theorem dX0_tank_19 : decode cX0_tank 19 = .ok (.ireturn, 1) := by decide +kernel
theorem dX0_stage_0 : decode cX0_stage 0 = .ok (.aload_n 0, 1) := by decide +kernel
theorem dX0_stage_1 : decode cX0_stage 1 = .ok (.getfield 90, 3) := by decide +kernel
theorem dX0_stage_4 : decode cX0_stage 4 = .ok (.iconst 4, 1) := by decide +kernel
theorem dX0_stage_5 : decode cX0_stage 5 = .ok (.if_icmp .ge 22, 3) := by decide +kernel
theorem dX0_stage_8 : decode cX0_stage 8 = .ok (.iload_n 1, 1) := by decide +kernel
theorem dX0_stage_9 : decode cX0_stage 9 = .ok (.i2l, 1) := by decide +kernel
theorem dX0_stage_10 : decode cX0_stage 10 = .ok (.lconst 0, 1) := by decide +kernel
theorem dX0_stage_11 : decode cX0_stage 11 = .ok (.ldc2_w 70, 3) := by decide +kernel
theorem dX0_stage_14 : decode cX0_stage 14 = .ok (.invokestatic 46, 3) := by decide +kernel
theorem dX0_stage_17 : decode cX0_stage 17 = .ok (.ifCond .eq 10, 3) := by decide +kernel
theorem dX0_stage_20 : decode cX0_stage 20 = .ok (.iload_n 2, 1) := by decide +kernel
theorem dX0_stage_21 : decode cX0_stage 21 = .ok (.invokestatic 72, 3) := by decide +kernel
theorem dX0_stage_24 : decode cX0_stage 24 = .ok (.ifCond .ne 5, 3) := by decide +kernel
theorem dX0_stage_27 : decode cX0_stage 27 = .ok (.iconst (-1), 1) := by decide +kernel
theorem dX0_stage_28 : decode cX0_stage 28 = .ok (.ireturn, 1) := by decide +kernel
theorem dX0_stage_29 : decode cX0_stage 29 = .ok (.aload_n 0, 1) := by decide +kernel
theorem dX0_stage_30 : decode cX0_stage 30 = .ok (.getfield 9, 3) := by decide +kernel
theorem dX0_stage_33 : decode cX0_stage 33 = .ok (.aload_n 0, 1) := by decide +kernel
theorem dX0_stage_34 : decode cX0_stage 34 = .ok (.getfield 90, 3) := by decide +kernel
theorem dX0_stage_37 : decode cX0_stage 37 = .ok (.iload_n 1, 1) := by decide +kernel
theorem dX0_stage_38 : decode cX0_stage 38 = .ok (.iastore, 1) := by decide +kernel
theorem dX0_stage_39 : decode cX0_stage 39 = .ok (.aload_n 0, 1) := by decide +kernel
theorem dX0_stage_40 : decode cX0_stage 40 = .ok (.getfield 13, 3) := by decide +kernel
theorem dX0_stage_43 : decode cX0_stage 43 = .ok (.aload_n 0, 1) := by decide +kernel
theorem dX0_stage_44 : decode cX0_stage 44 = .ok (.getfield 90, 3) := by decide +kernel
theorem dX0_stage_47 : decode cX0_stage 47 = .ok (.iload_n 2, 1) := by decide +kernel
theorem dX0_stage_48 : decode cX0_stage 48 = .ok (.iastore, 1) := by decide +kernel
theorem dX0_stage_49 : decode cX0_stage 49 = .ok (.aload_n 0, 1) := by decide +kernel
theorem dX0_stage_50 : decode cX0_stage 50 = .ok (.dup, 1) := by decide +kernel
theorem dX0_stage_51 : decode cX0_stage 51 = .ok (.getfield 90, 3) := by decide +kernel
theorem dX0_stage_54 : decode cX0_stage 54 = .ok (.iconst 1, 1) := by decide +kernel
theorem dX0_stage_55 : decode cX0_stage 55 = .ok (.iadd, 1) := by decide +kernel
theorem dX0_stage_56 : decode cX0_stage 56 = .ok (.putfield 90, 3) := by decide +kernel
theorem dX0_stage_59 : decode cX0_stage 59 = .ok (.aload_n 0, 1) := by decide +kernel
theorem dX0_stage_60 : decode cX0_stage 60 = .ok (.getfield 90, 3) := by decide +kernel
theorem dX0_stage_63 : decode cX0_stage 63 = .ok (.iconst 1, 1) := by decide +kernel
theorem dX0_stage_64 : decode cX0_stage 64 = .ok (.isub, 1) := by decide +kernel
theorem dX0_stage_65 : decode cX0_stage 65 = .ok (.ireturn, 1) := by decide +kernel
theorem dX0_rain_0 : decode cX0_rain 0 = .ok (.iload_n 1, 1) := by decide +kernel
theorem dX0_rain_1 : decode cX0_rain 1 = .ok (.i2l, 1) := by decide +kernel
theorem dX0_rain_2 : decode cX0_rain 2 = .ok (.aload_n 0, 1) := by decide +kernel
theorem dX0_rain_3 : decode cX0_rain 3 = .ok (.getfield 93, 3) := by decide +kernel
theorem dX0_rain_6 : decode cX0_rain 6 = .ok (.i2l, 1) := by decide +kernel
theorem dX0_rain_7 : decode cX0_rain 7 = .ok (.ldc2_w 96, 3) := by decide +kernel
theorem dX0_rain_10 : decode cX0_rain 10 = .ok (.invokestatic 46, 3) := by decide +kernel
theorem dX0_rain_13 : decode cX0_rain 13 = .ok (.ifCond .eq 15, 3) := by decide +kernel
theorem dX0_rain_16 : decode cX0_rain 16 = .ok (.iload_n 2, 1) := by decide +kernel
theorem dX0_rain_17 : decode cX0_rain 17 = .ok (.i2l, 1) := by decide +kernel
theorem dX0_rain_18 : decode cX0_rain 18 = .ok (.lconst 0, 1) := by decide +kernel
theorem dX0_rain_19 : decode cX0_rain 19 = .ok (.ldc2_w 70, 3) := by decide +kernel
theorem dX0_rain_22 : decode cX0_rain 22 = .ok (.invokestatic 46, 3) := by decide +kernel
theorem dX0_rain_25 : decode cX0_rain 25 = .ok (.ifCond .ne 5, 3) := by decide +kernel
theorem dX0_rain_28 : decode cX0_rain 28 = .ok (.iconst 0, 1) := by decide +kernel
theorem dX0_rain_29 : decode cX0_rain 29 = .ok (.ireturn, 1) := by decide +kernel
theorem dX0_rain_30 : decode cX0_rain 30 = .ok (.aload_n 0, 1) := by decide +kernel
theorem dX0_rain_31 : decode cX0_rain 31 = .ok (.getfield 16, 3) := by decide +kernel
theorem dX0_rain_34 : decode cX0_rain 34 = .ok (.iload_n 1, 1) := by decide +kernel
theorem dX0_rain_35 : decode cX0_rain 35 = .ok (.iload_n 2, 1) := by decide +kernel
theorem dX0_rain_36 : decode cX0_rain 36 = .ok (.iastore, 1) := by decide +kernel
theorem dX0_rain_37 : decode cX0_rain 37 = .ok (.iconst 1, 1) := by decide +kernel
theorem dX0_rain_38 : decode cX0_rain 38 = .ok (.ireturn, 1) := by decide +kernel
theorem dX0_storm_0 : decode cX0_storm 0 = .ok (.aload_n 0, 1) := by decide +kernel
theorem dX0_storm_1 : decode cX0_storm 1 = .ok (.iload_n 3, 1) := by decide +kernel
theorem dX0_storm_2 : decode cX0_storm 2 = .ok (.invokevirtual 98, 3) := by decide +kernel
theorem dX0_storm_5 : decode cX0_storm 5 = .ok (.ifCond .ne 5, 3) := by decide +kernel
theorem dX0_storm_8 : decode cX0_storm 8 = .ok (.iconst 0, 1) := by decide +kernel
theorem dX0_storm_9 : decode cX0_storm 9 = .ok (.ireturn, 1) := by decide +kernel
theorem dX0_storm_10 : decode cX0_storm 10 = .ok (.lload_n 1, 1) := by decide +kernel
theorem dX0_storm_11 : decode cX0_storm 11 = .ok (.lstore 4, 2) := by decide +kernel
theorem dX0_storm_13 : decode cX0_storm 13 = .ok (.iconst 0, 1) := by decide +kernel
theorem dX0_storm_14 : decode cX0_storm 14 = .ok (.istore 6, 2) := by decide +kernel
theorem dX0_storm_16 : decode cX0_storm 16 = .ok (.iload 6, 2) := by decide +kernel
theorem dX0_storm_18 : decode cX0_storm 18 = .ok (.iload_n 3, 1) := by decide +kernel
theorem dX0_storm_19 : decode cX0_storm 19 = .ok (.if_icmp .ge 39, 3) := by decide +kernel
theorem dX0_storm_22 : decode cX0_storm 22 = .ok (.lload 4, 2) := by decide +kernel
theorem dX0_storm_24 : decode cX0_storm 24 = .ok (.ldc2_w 101, 3) := by decide +kernel
theorem dX0_storm_27 : decode cX0_storm 27 = .ok (.lmul, 1) := by decide +kernel
theorem dX0_storm_28 : decode cX0_storm 28 = .ok (.ldc2_w 103, 3) := by decide +kernel
theorem dX0_storm_31 : decode cX0_storm 31 = .ok (.ladd, 1) := by decide +kernel
theorem dX0_storm_32 : decode cX0_storm 32 = .ok (.lstore 4, 2) := by decide +kernel
theorem dX0_storm_34 : decode cX0_storm 34 = .ok (.aload_n 0, 1) := by decide +kernel
theorem dX0_storm_35 : decode cX0_storm 35 = .ok (.getfield 16, 3) := by decide +kernel
theorem dX0_storm_38 : decode cX0_storm 38 = .ok (.aload_n 0, 1) := by decide +kernel
theorem dX0_storm_39 : decode cX0_storm 39 = .ok (.getfield 93, 3) := by decide +kernel
theorem dX0_storm_42 : decode cX0_storm 42 = .ok (.iload 6, 2) := by decide +kernel
theorem dX0_storm_44 : decode cX0_storm 44 = .ok (.iadd, 1) := by decide +kernel
theorem dX0_storm_45 : decode cX0_storm 45 = .ok (.lload 4, 2) := by decide +kernel
theorem dX0_storm_47 : decode cX0_storm 47 = .ok (.bipush 54, 2) := by decide +kernel
theorem dX0_storm_49 : decode cX0_storm 49 = .ok (.lushr, 1) := by decide +kernel
theorem dX0_storm_50 : decode cX0_storm 50 = .ok (.l2i, 1) := by decide +kernel
theorem dX0_storm_51 : decode cX0_storm 51 = .ok (.iastore, 1) := by decide +kernel
theorem dX0_storm_52 : decode cX0_storm 52 = .ok (.iinc 6 1, 3) := by decide +kernel
theorem dX0_storm_55 : decode cX0_storm 55 = .ok (.goto (-39), 3) := by decide +kernel
theorem dX0_storm_58 : decode cX0_storm 58 = .ok (.iconst 1, 1) := by decide +kernel
theorem dX0_storm_59 : decode cX0_storm 59 = .ok (.ireturn, 1) := by decide +kernel
theorem dX0_areDaysToRun_0 : decode cX0_areDaysToRun 0 = .ok (.iload_n 1, 1) := by decide +kernel
theorem dX0_areDaysToRun_1 : decode cX0_areDaysToRun 1 = .ok (.i2l, 1) := by decide +kernel
theorem dX0_areDaysToRun_2 : decode cX0_areDaysToRun 2 = .ok (.lconst 1, 1) := by decide +kernel
theorem dX0_areDaysToRun_3 : decode cX0_areDaysToRun 3 = .ok (.ldc2_w 149, 3) := by decide +kernel
theorem dX0_areDaysToRun_6 : decode cX0_areDaysToRun 6 = .ok (.invokestatic 46, 3) := by decide +kernel
theorem dX0_areDaysToRun_9 : decode cX0_areDaysToRun 9 = .ok (.ifCond .eq 19, 3) := by decide +kernel
theorem dX0_areDaysToRun_12 : decode cX0_areDaysToRun 12 = .ok (.aload_n 0, 1) := by decide +kernel
theorem dX0_areDaysToRun_13 : decode cX0_areDaysToRun 13 = .ok (.getfield 93, 3) := by decide +kernel
theorem dX0_areDaysToRun_16 : decode cX0_areDaysToRun 16 = .ok (.iload_n 1, 1) := by decide +kernel
theorem dX0_areDaysToRun_17 : decode cX0_areDaysToRun 17 = .ok (.iadd, 1) := by decide +kernel
theorem dX0_areDaysToRun_18 : decode cX0_areDaysToRun 18 = .ok (.sipush 400, 3) := by decide +kernel
theorem dX0_areDaysToRun_21 : decode cX0_areDaysToRun 21 = .ok (.if_icmp .gt 7, 3) := by decide +kernel
theorem dX0_areDaysToRun_24 : decode cX0_areDaysToRun 24 = .ok (.iconst 1, 1) := by decide +kernel
theorem dX0_areDaysToRun_25 : decode cX0_areDaysToRun 25 = .ok (.goto 4, 3) := by decide +kernel
theorem dX0_areDaysToRun_28 : decode cX0_areDaysToRun 28 = .ok (.iconst 0, 1) := by decide +kernel
theorem dX0_areDaysToRun_29 : decode cX0_areDaysToRun 29 = .ok (.ireturn, 1) := by decide +kernel
theorem dX0_run_0 : decode cX0_run 0 = .ok (.aload_n 0, 1) := by decide +kernel
theorem dX0_run_1 : decode cX0_run 1 = .ok (.iload_n 1, 1) := by decide +kernel
theorem dX0_run_2 : decode cX0_run 2 = .ok (.invokevirtual 98, 3) := by decide +kernel
theorem dX0_run_5 : decode cX0_run 5 = .ok (.ifCond .ne 5, 3) := by decide +kernel
theorem dX0_run_8 : decode cX0_run 8 = .ok (.iconst (-1), 1) := by decide +kernel
theorem dX0_run_9 : decode cX0_run 9 = .ok (.ireturn, 1) := by decide +kernel
theorem dX0_run_10 : decode cX0_run 10 = .ok (.iconst 0, 1) := by decide +kernel
theorem dX0_run_11 : decode cX0_run 11 = .ok (.istore_n 2, 1) := by decide +kernel
theorem dX0_run_12 : decode cX0_run 12 = .ok (.iload_n 2, 1) := by decide +kernel
theorem dX0_run_13 : decode cX0_run 13 = .ok (.iload_n 1, 1) := by decide +kernel
theorem dX0_run_14 : decode cX0_run 14 = .ok (.if_icmp .ge 13, 3) := by decide +kernel
theorem dX0_run_17 : decode cX0_run 17 = .ok (.aload_n 0, 1) := by decide +kernel
theorem dX0_run_18 : decode cX0_run 18 = .ok (.invokevirtual 105, 3) := by decide +kernel
theorem dX0_run_21 : decode cX0_run 21 = .ok (.iinc 2 1, 3) := by decide +kernel
theorem dX0_run_24 : decode cX0_run 24 = .ok (.goto (-12), 3) := by decide +kernel
theorem dX0_run_27 : decode cX0_run 27 = .ok (.aload_n 0, 1) := by decide +kernel
theorem dX0_run_28 : decode cX0_run 28 = .ok (.getfield 93, 3) := by decide +kernel
theorem dX0_run_31 : decode cX0_run 31 = .ok (.ireturn, 1) := by decide +kernel
theorem dX0_runNextDay_0 : decode cX0_runNextDay 0 = .ok (.aload_n 0, 1) := by decide +kernel
theorem dX0_runNextDay_1 : decode cX0_runNextDay 1 = .ok (.aload_n 0, 1) := by decide +kernel
theorem dX0_runNextDay_2 : decode cX0_runNextDay 2 = .ok (.getfield 16, 3) := by decide +kernel
theorem dX0_runNextDay_5 : decode cX0_runNextDay 5 = .ok (.aload_n 0, 1) := by decide +kernel
theorem dX0_runNextDay_6 : decode cX0_runNextDay 6 = .ok (.getfield 93, 3) := by decide +kernel
theorem dX0_runNextDay_9 : decode cX0_runNextDay 9 = .ok (.iaload, 1) := by decide +kernel
theorem dX0_runNextDay_10 : decode cX0_runNextDay 10 = .ok (.i2l, 1) := by decide +kernel
theorem dX0_runNextDay_11 : decode cX0_runNextDay 11 = .ok (.invokevirtual 151, 3) := by decide +kernel
theorem dX0_runNextDay_14 : decode cX0_runNextDay 14 = .ok (.aload_n 0, 1) := by decide +kernel
theorem dX0_runNextDay_15 : decode cX0_runNextDay 15 = .ok (.invokevirtual 155, 3) := by decide +kernel
theorem dX0_runNextDay_18 : decode cX0_runNextDay 18 = .ok (.lstore_n 1, 1) := by decide +kernel
theorem dX0_runNextDay_19 : decode cX0_runNextDay 19 = .ok (.aload_n 0, 1) := by decide +kernel
theorem dX0_runNextDay_20 : decode cX0_runNextDay 20 = .ok (.lload_n 1, 1) := by decide +kernel
theorem dX0_runNextDay_21 : decode cX0_runNextDay 21 = .ok (.invokevirtual 159, 3) := by decide +kernel
theorem dX0_runNextDay_24 : decode cX0_runNextDay 24 = .ok (.aload_n 0, 1) := by decide +kernel
theorem dX0_runNextDay_25 : decode cX0_runNextDay 25 = .ok (.invokevirtual 162, 3) := by decide +kernel
theorem dX0_runNextDay_28 : decode cX0_runNextDay 28 = .ok (.lstore_n 3, 1) := by decide +kernel
theorem dX0_runNextDay_29 : decode cX0_runNextDay 29 = .ok (.aload_n 0, 1) := by decide +kernel
theorem dX0_runNextDay_30 : decode cX0_runNextDay 30 = .ok (.getfield 19, 3) := by decide +kernel
theorem dX0_runNextDay_33 : decode cX0_runNextDay 33 = .ok (.aload_n 0, 1) := by decide +kernel
theorem dX0_runNextDay_34 : decode cX0_runNextDay 34 = .ok (.getfield 93, 3) := by decide +kernel
theorem dX0_runNextDay_37 : decode cX0_runNextDay 37 = .ok (.aload_n 0, 1) := by decide +kernel
theorem dX0_runNextDay_38 : decode cX0_runNextDay 38 = .ok (.lload_n 3, 1) := by decide +kernel
theorem dX0_runNextDay_39 : decode cX0_runNextDay 39 = .ok (.invokevirtual 165, 3) := by decide +kernel
theorem dX0_runNextDay_42 : decode cX0_runNextDay 42 = .ok (.lastore, 1) := by decide +kernel
theorem dX0_runNextDay_43 : decode cX0_runNextDay 43 = .ok (.aload_n 0, 1) := by decide +kernel
theorem dX0_runNextDay_44 : decode cX0_runNextDay 44 = .ok (.dup, 1) := by decide +kernel
theorem dX0_runNextDay_45 : decode cX0_runNextDay 45 = .ok (.getfield 93, 3) := by decide +kernel
theorem dX0_runNextDay_48 : decode cX0_runNextDay 48 = .ok (.iconst 1, 1) := by decide +kernel
theorem dX0_runNextDay_49 : decode cX0_runNextDay 49 = .ok (.iadd, 1) := by decide +kernel
theorem dX0_runNextDay_50 : decode cX0_runNextDay 50 = .ok (.putfield 93, 3) := by decide +kernel
theorem dX0_runNextDay_53 : decode cX0_runNextDay 53 = .ok (.return_, 1) := by decide +kernel
theorem dX0_comeIn_0 : decode cX0_comeIn 0 = .ok (.aload_n 0, 1) := by decide +kernel
theorem dX0_comeIn_1 : decode cX0_comeIn 1 = .ok (.getfield 75, 3) := by decide +kernel
theorem dX0_comeIn_4 : decode cX0_comeIn 4 = .ok (.lload_n 1, 1) := by decide +kernel
theorem dX0_comeIn_5 : decode cX0_comeIn 5 = .ok (.invokestatic 169, 3) := by decide +kernel
theorem dX0_comeIn_8 : decode cX0_comeIn 8 = .ok (.lstore_n 3, 1) := by decide +kernel
theorem dX0_comeIn_9 : decode cX0_comeIn 9 = .ok (.aload_n 0, 1) := by decide +kernel
theorem dX0_comeIn_10 : decode cX0_comeIn 10 = .ok (.getfield 23, 3) := by decide +kernel
theorem dX0_comeIn_13 : decode cX0_comeIn 13 = .ok (.iconst 0, 1) := by decide +kernel
theorem dX0_comeIn_14 : decode cX0_comeIn 14 = .ok (.dup2, 1) := by decide +kernel
theorem dX0_comeIn_15 : decode cX0_comeIn 15 = .ok (.laload, 1) := by decide +kernel
theorem dX0_comeIn_16 : decode cX0_comeIn 16 = .ok (.lload_n 1, 1) := by decide +kernel
theorem dX0_comeIn_17 : decode cX0_comeIn 17 = .ok (.ladd, 1) := by decide +kernel
theorem dX0_comeIn_18 : decode cX0_comeIn 18 = .ok (.lastore, 1) := by decide +kernel
theorem dX0_comeIn_19 : decode cX0_comeIn 19 = .ok (.aload_n 0, 1) := by decide +kernel
theorem dX0_comeIn_20 : decode cX0_comeIn 20 = .ok (.getfield 23, 3) := by decide +kernel
theorem dX0_comeIn_23 : decode cX0_comeIn 23 = .ok (.iconst 1, 1) := by decide +kernel
theorem dX0_comeIn_24 : decode cX0_comeIn 24 = .ok (.dup2, 1) := by decide +kernel
theorem dX0_comeIn_25 : decode cX0_comeIn 25 = .ok (.laload, 1) := by decide +kernel
theorem dX0_comeIn_26 : decode cX0_comeIn 26 = .ok (.lload_n 3, 1) := by decide +kernel
theorem dX0_comeIn_27 : decode cX0_comeIn 27 = .ok (.ladd, 1) := by decide +kernel
theorem dX0_comeIn_28 : decode cX0_comeIn 28 = .ok (.lastore, 1) := by decide +kernel
theorem dX0_comeIn_29 : decode cX0_comeIn 29 = .ok (.aload_n 0, 1) := by decide +kernel
theorem dX0_comeIn_30 : decode cX0_comeIn 30 = .ok (.getfield 50, 3) := by decide +kernel
theorem dX0_comeIn_33 : decode cX0_comeIn 33 = .ok (.iconst 0, 1) := by decide +kernel
theorem dX0_comeIn_34 : decode cX0_comeIn 34 = .ok (.dup2, 1) := by decide +kernel
theorem dX0_comeIn_35 : decode cX0_comeIn 35 = .ok (.laload, 1) := by decide +kernel
theorem dX0_comeIn_36 : decode cX0_comeIn 36 = .ok (.lload_n 1, 1) := by decide +kernel
theorem dX0_comeIn_37 : decode cX0_comeIn 37 = .ok (.lload_n 3, 1) := by decide +kernel
theorem dX0_comeIn_38 : decode cX0_comeIn 38 = .ok (.lsub, 1) := by decide +kernel
theorem dX0_comeIn_39 : decode cX0_comeIn 39 = .ok (.aload_n 0, 1) := by decide +kernel
theorem dX0_comeIn_40 : decode cX0_comeIn 40 = .ok (.getfield 23, 3) := by decide +kernel
theorem dX0_comeIn_43 : decode cX0_comeIn 43 = .ok (.bipush 8, 2) := by decide +kernel
theorem dX0_comeIn_45 : decode cX0_comeIn 45 = .ok (.laload, 1) := by decide +kernel
theorem dX0_comeIn_46 : decode cX0_comeIn 46 = .ok (.ladd, 1) := by decide +kernel
theorem dX0_comeIn_47 : decode cX0_comeIn 47 = .ok (.ladd, 1) := by decide +kernel
theorem dX0_comeIn_48 : decode cX0_comeIn 48 = .ok (.lastore, 1) := by decide +kernel
theorem dX0_comeIn_49 : decode cX0_comeIn 49 = .ok (.return_, 1) := by decide +kernel
theorem dX0_partsOf_0 : decode cX0_partsOf 0 = .ok (.lload_n 1, 1) := by decide +kernel
theorem dX0_partsOf_1 : decode cX0_partsOf 1 = .ok (.iload_n 0, 1) := by decide +kernel
theorem dX0_partsOf_2 : decode cX0_partsOf 2 = .ok (.i2l, 1) := by decide +kernel
theorem dX0_partsOf_3 : decode cX0_partsOf 3 = .ok (.lmul, 1) := by decide +kernel
theorem dX0_partsOf_4 : decode cX0_partsOf 4 = .ok (.ldc2_w 145, 3) := by decide +kernel
theorem dX0_partsOf_7 : decode cX0_partsOf 7 = .ok (.ldiv, 1) := by decide +kernel
theorem dX0_partsOf_8 : decode cX0_partsOf 8 = .ok (.lreturn, 1) := by decide +kernel
theorem dX0_passDown_0 : decode cX0_passDown 0 = .ok (.lconst 0, 1) := by decide +kernel
theorem dX0_passDown_1 : decode cX0_passDown 1 = .ok (.lstore_n 1, 1) := by decide +kernel
theorem dX0_passDown_2 : decode cX0_passDown 2 = .ok (.iconst 0, 1) := by decide +kernel
theorem dX0_passDown_3 : decode cX0_passDown 3 = .ok (.istore_n 3, 1) := by decide +kernel
theorem dX0_passDown_4 : decode cX0_passDown 4 = .ok (.iload_n 3, 1) := by decide +kernel
theorem dX0_passDown_5 : decode cX0_passDown 5 = .ok (.aload_n 0, 1) := by decide +kernel
theorem dX0_passDown_6 : decode cX0_passDown 6 = .ok (.getfield 50, 3) := by decide +kernel
theorem dX0_passDown_9 : decode cX0_passDown 9 = .ok (.arraylength, 1) := by decide +kernel
theorem dX0_passDown_10 : decode cX0_passDown 10 = .ok (.if_icmp .ge 61, 3) := by decide +kernel
theorem dX0_passDown_13 : decode cX0_passDown 13 = .ok (.aload_n 0, 1) := by decide +kernel
theorem dX0_passDown_14 : decode cX0_passDown 14 = .ok (.getfield 50, 3) := by decide +kernel
theorem dX0_passDown_17 : decode cX0_passDown 17 = .ok (.iload_n 3, 1) := by decide +kernel
theorem dX0_passDown_18 : decode cX0_passDown 18 = .ok (.dup2, 1) := by decide +kernel
theorem dX0_passDown_19 : decode cX0_passDown 19 = .ok (.laload, 1) := by decide +kernel
theorem dX0_passDown_20 : decode cX0_passDown 20 = .ok (.lload_n 1, 1) := by decide +kernel
theorem dX0_passDown_21 : decode cX0_passDown 21 = .ok (.ladd, 1) := by decide +kernel
theorem dX0_passDown_22 : decode cX0_passDown 22 = .ok (.lastore, 1) := by decide +kernel
theorem dX0_passDown_23 : decode cX0_passDown 23 = .ok (.lconst 0, 1) := by decide +kernel
theorem dX0_passDown_24 : decode cX0_passDown 24 = .ok (.aload_n 0, 1) := by decide +kernel
theorem dX0_passDown_25 : decode cX0_passDown 25 = .ok (.getfield 50, 3) := by decide +kernel
theorem dX0_passDown_28 : decode cX0_passDown 28 = .ok (.iload_n 3, 1) := by decide +kernel
theorem dX0_passDown_29 : decode cX0_passDown 29 = .ok (.laload, 1) := by decide +kernel
theorem dX0_passDown_30 : decode cX0_passDown 30 = .ok (.aload_n 0, 1) := by decide +kernel
theorem dX0_passDown_31 : decode cX0_passDown 31 = .ok (.getfield 53, 3) := by decide +kernel
theorem dX0_passDown_34 : decode cX0_passDown 34 = .ok (.iload_n 3, 1) := by decide +kernel
theorem dX0_passDown_35 : decode cX0_passDown 35 = .ok (.iaload, 1) := by decide +kernel
theorem dX0_passDown_36 : decode cX0_passDown 36 = .ok (.i2l, 1) := by decide +kernel
theorem dX0_passDown_37 : decode cX0_passDown 37 = .ok (.lsub, 1) := by decide +kernel
theorem dX0_passDown_38 : decode cX0_passDown 38 = .ok (.invokestatic 173, 3) := by decide +kernel
theorem dX0_passDown_41 : decode cX0_passDown 41 = .ok (.lstore 4, 2) := by decide +kernel
theorem dX0_passDown_43 : decode cX0_passDown 43 = .ok (.aload_n 0, 1) := by decide +kernel
theorem dX0_passDown_44 : decode cX0_passDown 44 = .ok (.getfield 56, 3) := by decide +kernel
theorem dX0_passDown_47 : decode cX0_passDown 47 = .ok (.iload_n 3, 1) := by decide +kernel
theorem dX0_passDown_48 : decode cX0_passDown 48 = .ok (.iaload, 1) := by decide +kernel
theorem dX0_passDown_49 : decode cX0_passDown 49 = .ok (.lload 4, 2) := by decide +kernel
theorem dX0_passDown_51 : decode cX0_passDown 51 = .ok (.invokestatic 169, 3) := by decide +kernel
theorem dX0_passDown_54 : decode cX0_passDown 54 = .ok (.lstore_n 1, 1) := by decide +kernel
theorem dX0_passDown_55 : decode cX0_passDown 55 = .ok (.aload_n 0, 1) := by decide +kernel
theorem dX0_passDown_56 : decode cX0_passDown 56 = .ok (.getfield 50, 3) := by decide +kernel
theorem dX0_passDown_59 : decode cX0_passDown 59 = .ok (.iload_n 3, 1) := by decide +kernel
theorem dX0_passDown_60 : decode cX0_passDown 60 = .ok (.dup2, 1) := by decide +kernel
theorem dX0_passDown_61 : decode cX0_passDown 61 = .ok (.laload, 1) := by decide +kernel
theorem dX0_passDown_62 : decode cX0_passDown 62 = .ok (.lload_n 1, 1) := by decide +kernel
theorem dX0_passDown_63 : decode cX0_passDown 63 = .ok (.lsub, 1) := by decide +kernel
theorem dX0_passDown_64 : decode cX0_passDown 64 = .ok (.lastore, 1) := by decide +kernel
theorem dX0_passDown_65 : decode cX0_passDown 65 = .ok (.iinc 3 1, 3) := by decide +kernel
theorem dX0_passDown_68 : decode cX0_passDown 68 = .ok (.goto (-64), 3) := by decide +kernel
theorem dX0_passDown_71 : decode cX0_passDown 71 = .ok (.lload_n 1, 1) := by decide +kernel
theorem dX0_passDown_72 : decode cX0_passDown 72 = .ok (.lreturn, 1) := by decide +kernel
theorem dX0_fillTank_0 : decode cX0_fillTank 0 = .ok (.aload_n 0, 1) := by decide +kernel
theorem dX0_fillTank_1 : decode cX0_fillTank 1 = .ok (.getfield 79, 3) := by decide +kernel
theorem dX0_fillTank_4 : decode cX0_fillTank 4 = .ok (.lload_n 1, 1) := by decide +kernel
theorem dX0_fillTank_5 : decode cX0_fillTank 5 = .ok (.invokestatic 169, 3) := by decide +kernel
theorem dX0_fillTank_8 : decode cX0_fillTank 8 = .ok (.lstore_n 3, 1) := by decide +kernel
theorem dX0_fillTank_9 : decode cX0_fillTank 9 = .ok (.aload_n 0, 1) := by decide +kernel
theorem dX0_fillTank_10 : decode cX0_fillTank 10 = .ok (.getfield 23, 3) := by decide +kernel
theorem dX0_fillTank_13 : decode cX0_fillTank 13 = .ok (.iconst 2, 1) := by decide +kernel
theorem dX0_fillTank_14 : decode cX0_fillTank 14 = .ok (.dup2, 1) := by decide +kernel
theorem dX0_fillTank_15 : decode cX0_fillTank 15 = .ok (.laload, 1) := by decide +kernel
theorem dX0_fillTank_16 : decode cX0_fillTank 16 = .ok (.lload_n 1, 1) := by decide +kernel
theorem dX0_fillTank_17 : decode cX0_fillTank 17 = .ok (.ladd, 1) := by decide +kernel
theorem dX0_fillTank_18 : decode cX0_fillTank 18 = .ok (.lastore, 1) := by decide +kernel
theorem dX0_fillTank_19 : decode cX0_fillTank 19 = .ok (.aload_n 0, 1) := by decide +kernel
theorem dX0_fillTank_20 : decode cX0_fillTank 20 = .ok (.getfield 23, 3) := by decide +kernel
theorem dX0_fillTank_23 : decode cX0_fillTank 23 = .ok (.iconst 3, 1) := by decide +kernel
theorem dX0_fillTank_24 : decode cX0_fillTank 24 = .ok (.dup2, 1) := by decide +kernel
theorem dX0_fillTank_25 : decode cX0_fillTank 25 = .ok (.laload, 1) := by decide +kernel
theorem dX0_fillTank_26 : decode cX0_fillTank 26 = .ok (.lload_n 1, 1) := by decide +kernel
theorem dX0_fillTank_27 : decode cX0_fillTank 27 = .ok (.lload_n 3, 1) := by decide +kernel
theorem dX0_fillTank_28 : decode cX0_fillTank 28 = .ok (.lsub, 1) := by decide +kernel
theorem dX0_fillTank_29 : decode cX0_fillTank 29 = .ok (.ladd, 1) := by decide +kernel
theorem dX0_fillTank_30 : decode cX0_fillTank 30 = .ok (.lastore, 1) := by decide +kernel
theorem dX0_fillTank_31 : decode cX0_fillTank 31 = .ok (.aload_n 0, 1) := by decide +kernel
theorem dX0_fillTank_32 : decode cX0_fillTank 32 = .ok (.getfield 23, 3) := by decide +kernel
theorem dX0_fillTank_35 : decode cX0_fillTank 35 = .ok (.bipush 7, 2) := by decide +kernel
theorem dX0_fillTank_37 : decode cX0_fillTank 37 = .ok (.laload, 1) := by decide +kernel
theorem dX0_fillTank_38 : decode cX0_fillTank 38 = .ok (.lload_n 3, 1) := by decide +kernel
theorem dX0_fillTank_39 : decode cX0_fillTank 39 = .ok (.ladd, 1) := by decide +kernel
theorem dX0_fillTank_40 : decode cX0_fillTank 40 = .ok (.lstore 5, 2) := by decide +kernel
theorem dX0_fillTank_42 : decode cX0_fillTank 42 = .ok (.lconst 0, 1) := by decide +kernel
theorem dX0_fillTank_43 : decode cX0_fillTank 43 = .ok (.lload 5, 2) := by decide +kernel
theorem dX0_fillTank_45 : decode cX0_fillTank 45 = .ok (.aload_n 0, 1) := by decide +kernel
theorem dX0_fillTank_46 : decode cX0_fillTank 46 = .ok (.getfield 87, 3) := by decide +kernel
theorem dX0_fillTank_49 : decode cX0_fillTank 49 = .ok (.lsub, 1) := by decide +kernel
theorem dX0_fillTank_50 : decode cX0_fillTank 50 = .ok (.invokestatic 173, 3) := by decide +kernel
theorem dX0_fillTank_53 : decode cX0_fillTank 53 = .ok (.lstore 7, 2) := by decide +kernel
theorem dX0_fillTank_55 : decode cX0_fillTank 55 = .ok (.aload_n 0, 1) := by decide +kernel
theorem dX0_fillTank_56 : decode cX0_fillTank 56 = .ok (.getfield 23, 3) := by decide +kernel
theorem dX0_fillTank_59 : decode cX0_fillTank 59 = .ok (.iconst 4, 1) := by decide +kernel
theorem dX0_fillTank_60 : decode cX0_fillTank 60 = .ok (.dup2, 1) := by decide +kernel
theorem dX0_fillTank_61 : decode cX0_fillTank 61 = .ok (.laload, 1) := by decide +kernel
theorem dX0_fillTank_62 : decode cX0_fillTank 62 = .ok (.lload 7, 2) := by decide +kernel
theorem dX0_fillTank_64 : decode cX0_fillTank 64 = .ok (.ladd, 1) := by decide +kernel
theorem dX0_fillTank_65 : decode cX0_fillTank 65 = .ok (.lastore, 1) := by decide +kernel
theorem dX0_fillTank_66 : decode cX0_fillTank 66 = .ok (.aload_n 0, 1) := by decide +kernel
theorem dX0_fillTank_67 : decode cX0_fillTank 67 = .ok (.getfield 23, 3) := by decide +kernel
theorem dX0_fillTank_70 : decode cX0_fillTank 70 = .ok (.bipush 7, 2) := by decide +kernel
theorem dX0_fillTank_72 : decode cX0_fillTank 72 = .ok (.lload 5, 2) := by decide +kernel
theorem dX0_fillTank_74 : decode cX0_fillTank 74 = .ok (.lload 7, 2) := by decide +kernel
theorem dX0_fillTank_76 : decode cX0_fillTank 76 = .ok (.lsub, 1) := by decide +kernel
theorem dX0_fillTank_77 : decode cX0_fillTank 77 = .ok (.lastore, 1) := by decide +kernel
theorem dX0_fillTank_78 : decode cX0_fillTank 78 = .ok (.return_, 1) := by decide +kernel
theorem dX0_clean_0 : decode cX0_clean 0 = .ok (.aload_n 0, 1) := by decide +kernel
theorem dX0_clean_1 : decode cX0_clean 1 = .ok (.getfield 90, 3) := by decide +kernel
theorem dX0_clean_4 : decode cX0_clean 4 = .ok (.ifCond .ne 5, 3) := by decide +kernel
theorem dX0_clean_7 : decode cX0_clean 7 = .ok (.lconst 0, 1) := by decide +kernel
theorem dX0_clean_8 : decode cX0_clean 8 = .ok (.lreturn, 1) := by decide +kernel
theorem dX0_clean_9 : decode cX0_clean 9 = .ok (.aload_n 0, 1) := by decide +kernel
theorem dX0_clean_10 : decode cX0_clean 10 = .ok (.getfield 23, 3) := by decide +kernel
theorem dX0_clean_13 : decode cX0_clean 13 = .ok (.bipush 7, 2) := by decide +kernel
theorem dX0_clean_15 : decode cX0_clean 15 = .ok (.laload, 1) := by decide +kernel
theorem dX0_clean_16 : decode cX0_clean 16 = .ok (.lstore_n 1, 1) := by decide +kernel
theorem dX0_clean_17 : decode cX0_clean 17 = .ok (.aload_n 0, 1) := by decide +kernel
theorem dX0_clean_18 : decode cX0_clean 18 = .ok (.getfield 23, 3) := by decide +kernel
theorem dX0_clean_21 : decode cX0_clean 21 = .ok (.bipush 7, 2) := by decide +kernel
theorem dX0_clean_23 : decode cX0_clean 23 = .ok (.lconst 0, 1) := by decide +kernel
theorem dX0_clean_24 : decode cX0_clean 24 = .ok (.lastore, 1) := by decide +kernel
theorem dX0_clean_25 : decode cX0_clean 25 = .ok (.iconst 0, 1) := by decide +kernel
theorem dX0_clean_26 : decode cX0_clean 26 = .ok (.istore_n 3, 1) := by decide +kernel
theorem dX0_clean_27 : decode cX0_clean 27 = .ok (.iload_n 3, 1) := by decide +kernel
theorem dX0_clean_28 : decode cX0_clean 28 = .ok (.aload_n 0, 1) := by decide +kernel
theorem dX0_clean_29 : decode cX0_clean 29 = .ok (.getfield 90, 3) := by decide +kernel
theorem dX0_clean_32 : decode cX0_clean 32 = .ok (.if_icmp .ge 66, 3) := by decide +kernel
theorem dX0_clean_35 : decode cX0_clean 35 = .ok (.aload_n 0, 1) := by decide +kernel
theorem dX0_clean_36 : decode cX0_clean 36 = .ok (.getfield 9, 3) := by decide +kernel
theorem dX0_clean_39 : decode cX0_clean 39 = .ok (.iload_n 3, 1) := by decide +kernel
theorem dX0_clean_40 : decode cX0_clean 40 = .ok (.iaload, 1) := by decide +kernel
theorem dX0_clean_41 : decode cX0_clean 41 = .ok (.i2l, 1) := by decide +kernel
theorem dX0_clean_42 : decode cX0_clean 42 = .ok (.lload_n 1, 1) := by decide +kernel
theorem dX0_clean_43 : decode cX0_clean 43 = .ok (.invokestatic 179, 3) := by decide +kernel
theorem dX0_clean_46 : decode cX0_clean 46 = .ok (.lstore 4, 2) := by decide +kernel
theorem dX0_clean_48 : decode cX0_clean 48 = .ok (.aload_n 0, 1) := by decide +kernel
theorem dX0_clean_49 : decode cX0_clean 49 = .ok (.getfield 13, 3) := by decide +kernel
theorem dX0_clean_52 : decode cX0_clean 52 = .ok (.iload_n 3, 1) := by decide +kernel
theorem dX0_clean_53 : decode cX0_clean 53 = .ok (.iaload, 1) := by decide +kernel
theorem dX0_clean_54 : decode cX0_clean 54 = .ok (.lload 4, 2) := by decide +kernel
theorem dX0_clean_56 : decode cX0_clean 56 = .ok (.invokestatic 169, 3) := by decide +kernel
theorem dX0_clean_59 : decode cX0_clean 59 = .ok (.lstore 6, 2) := by decide +kernel
theorem dX0_clean_61 : decode cX0_clean 61 = .ok (.aload_n 0, 1) := by decide +kernel
theorem dX0_clean_62 : decode cX0_clean 62 = .ok (.getfield 23, 3) := by decide +kernel
theorem dX0_clean_65 : decode cX0_clean 65 = .ok (.bipush 7, 2) := by decide +kernel
theorem dX0_clean_67 : decode cX0_clean 67 = .ok (.dup2, 1) := by decide +kernel
theorem dX0_clean_68 : decode cX0_clean 68 = .ok (.laload, 1) := by decide +kernel
theorem dX0_clean_69 : decode cX0_clean 69 = .ok (.lload_n 1, 1) := by decide +kernel
theorem dX0_clean_70 : decode cX0_clean 70 = .ok (.lload 4, 2) := by decide +kernel
theorem dX0_clean_72 : decode cX0_clean 72 = .ok (.lsub, 1) := by decide +kernel
theorem dX0_clean_73 : decode cX0_clean 73 = .ok (.ladd, 1) := by decide +kernel
theorem dX0_clean_74 : decode cX0_clean 74 = .ok (.lastore, 1) := by decide +kernel
theorem dX0_clean_75 : decode cX0_clean 75 = .ok (.aload_n 0, 1) := by decide +kernel
theorem dX0_clean_76 : decode cX0_clean 76 = .ok (.getfield 23, 3) := by decide +kernel
theorem dX0_clean_79 : decode cX0_clean 79 = .ok (.iconst 5, 1) := by decide +kernel
theorem dX0_clean_80 : decode cX0_clean 80 = .ok (.dup2, 1) := by decide +kernel
theorem dX0_clean_81 : decode cX0_clean 81 = .ok (.laload, 1) := by decide +kernel
theorem dX0_clean_82 : decode cX0_clean 82 = .ok (.lload 6, 2) := by decide +kernel
theorem dX0_clean_84 : decode cX0_clean 84 = .ok (.ladd, 1) := by decide +kernel
theorem dX0_clean_85 : decode cX0_clean 85 = .ok (.lastore, 1) := by decide +kernel
theorem dX0_clean_86 : decode cX0_clean 86 = .ok (.lload 4, 2) := by decide +kernel
theorem dX0_clean_88 : decode cX0_clean 88 = .ok (.lload 6, 2) := by decide +kernel
theorem dX0_clean_90 : decode cX0_clean 90 = .ok (.lsub, 1) := by decide +kernel
theorem dX0_clean_91 : decode cX0_clean 91 = .ok (.lstore_n 1, 1) := by decide +kernel
theorem dX0_clean_92 : decode cX0_clean 92 = .ok (.iinc 3 1, 3) := by decide +kernel
theorem dX0_clean_95 : decode cX0_clean 95 = .ok (.goto (-68), 3) := by decide +kernel
theorem dX0_clean_98 : decode cX0_clean 98 = .ok (.lload_n 1, 1) := by decide +kernel
theorem dX0_clean_99 : decode cX0_clean 99 = .ok (.lreturn, 1) := by decide +kernel
theorem dX0_partAtTheEnd_0 : decode cX0_partAtTheEnd 0 = .ok (.aload_n 0, 1) := by decide +kernel
theorem dX0_partAtTheEnd_1 : decode cX0_partAtTheEnd 1 = .ok (.getfield 82, 3) := by decide +kernel
theorem dX0_partAtTheEnd_4 : decode cX0_partAtTheEnd 4 = .ok (.lload_n 1, 1) := by decide +kernel
theorem dX0_partAtTheEnd_5 : decode cX0_partAtTheEnd 5 = .ok (.invokestatic 169, 3) := by decide +kernel
theorem dX0_partAtTheEnd_8 : decode cX0_partAtTheEnd 8 = .ok (.lstore_n 3, 1) := by decide +kernel
theorem dX0_partAtTheEnd_9 : decode cX0_partAtTheEnd 9 = .ok (.lload_n 1, 1) := by decide +kernel
theorem dX0_partAtTheEnd_10 : decode cX0_partAtTheEnd 10 = .ok (.lload_n 3, 1) := by decide +kernel
theorem dX0_partAtTheEnd_11 : decode cX0_partAtTheEnd 11 = .ok (.lsub, 1) := by decide +kernel
theorem dX0_partAtTheEnd_12 : decode cX0_partAtTheEnd 12 = .ok (.lstore 5, 2) := by decide +kernel
theorem dX0_partAtTheEnd_14 : decode cX0_partAtTheEnd 14 = .ok (.aload_n 0, 1) := by decide +kernel
theorem dX0_partAtTheEnd_15 : decode cX0_partAtTheEnd 15 = .ok (.getfield 23, 3) := by decide +kernel
theorem dX0_partAtTheEnd_18 : decode cX0_partAtTheEnd 18 = .ok (.bipush 8, 2) := by decide +kernel
theorem dX0_partAtTheEnd_20 : decode cX0_partAtTheEnd 20 = .ok (.lload_n 3, 1) := by decide +kernel
theorem dX0_partAtTheEnd_21 : decode cX0_partAtTheEnd 21 = .ok (.lastore, 1) := by decide +kernel
theorem dX0_partAtTheEnd_22 : decode cX0_partAtTheEnd 22 = .ok (.aload_n 0, 1) := by decide +kernel
theorem dX0_partAtTheEnd_23 : decode cX0_partAtTheEnd 23 = .ok (.getfield 23, 3) := by decide +kernel
theorem dX0_partAtTheEnd_26 : decode cX0_partAtTheEnd 26 = .ok (.bipush 6, 2) := by decide +kernel
theorem dX0_partAtTheEnd_28 : decode cX0_partAtTheEnd 28 = .ok (.dup2, 1) := by decide +kernel
theorem dX0_partAtTheEnd_29 : decode cX0_partAtTheEnd 29 = .ok (.laload, 1) := by decide +kernel
theorem dX0_partAtTheEnd_30 : decode cX0_partAtTheEnd 30 = .ok (.lload 5, 2) := by decide +kernel
theorem dX0_partAtTheEnd_32 : decode cX0_partAtTheEnd 32 = .ok (.ladd, 1) := by decide +kernel
theorem dX0_partAtTheEnd_33 : decode cX0_partAtTheEnd 33 = .ok (.lastore, 1) := by decide +kernel
theorem dX0_partAtTheEnd_34 : decode cX0_partAtTheEnd 34 = .ok (.lload 5, 2) := by decide +kernel
theorem dX0_partAtTheEnd_36 : decode cX0_partAtTheEnd 36 = .ok (.lreturn, 1) := by decide +kernel
theorem dX0_held_0 : decode cX0_held 0 = .ok (.aload_n 0, 1) := by decide +kernel
theorem dX0_held_1 : decode cX0_held 1 = .ok (.iload_n 1, 1) := by decide +kernel
theorem dX0_held_2 : decode cX0_held 2 = .ok (.invokevirtual 66, 3) := by decide +kernel
theorem dX0_held_5 : decode cX0_held 5 = .ok (.ifCond .eq 12, 3) := by decide +kernel
theorem dX0_held_8 : decode cX0_held 8 = .ok (.aload_n 0, 1) := by decide +kernel
theorem dX0_held_9 : decode cX0_held 9 = .ok (.getfield 50, 3) := by decide +kernel
theorem dX0_held_12 : decode cX0_held 12 = .ok (.iload_n 1, 1) := by decide +kernel
theorem dX0_held_13 : decode cX0_held 13 = .ok (.laload, 1) := by decide +kernel
theorem dX0_held_14 : decode cX0_held 14 = .ok (.goto 6, 3) := by decide +kernel
theorem dX0_held_17 : decode cX0_held 17 = .ok (.ldc2_w 35, 3) := by decide +kernel
theorem dX0_held_20 : decode cX0_held 20 = .ok (.lreturn, 1) := by decide +kernel
theorem dX0_out_0 : decode cX0_out 0 = .ok (.iload_n 1, 1) := by decide +kernel
theorem dX0_out_1 : decode cX0_out 1 = .ok (.i2l, 1) := by decide +kernel
theorem dX0_out_2 : decode cX0_out 2 = .ok (.lconst 0, 1) := by decide +kernel
theorem dX0_out_3 : decode cX0_out 3 = .ok (.ldc2_w 108, 3) := by decide +kernel
theorem dX0_out_6 : decode cX0_out 6 = .ok (.invokestatic 46, 3) := by decide +kernel
theorem dX0_out_9 : decode cX0_out 9 = .ok (.ifCond .eq 12, 3) := by decide +kernel
theorem dX0_out_12 : decode cX0_out 12 = .ok (.aload_n 0, 1) := by decide +kernel
theorem dX0_out_13 : decode cX0_out 13 = .ok (.getfield 23, 3) := by decide +kernel
theorem dX0_out_16 : decode cX0_out 16 = .ok (.iload_n 1, 1) := by decide +kernel
theorem dX0_out_17 : decode cX0_out 17 = .ok (.laload, 1) := by decide +kernel
theorem dX0_out_18 : decode cX0_out 18 = .ok (.goto 6, 3) := by decide +kernel
theorem dX0_out_21 : decode cX0_out 21 = .ok (.ldc2_w 35, 3) := by decide +kernel
theorem dX0_out_24 : decode cX0_out 24 = .ok (.lreturn, 1) := by decide +kernel
theorem dX0_balance_0 : decode cX0_balance 0 = .ok (.aload_n 0, 1) := by decide +kernel
theorem dX0_balance_1 : decode cX0_balance 1 = .ok (.getfield 23, 3) := by decide +kernel
theorem dX0_balance_4 : decode cX0_balance 4 = .ok (.iconst 0, 1) := by decide +kernel
theorem dX0_balance_5 : decode cX0_balance 5 = .ok (.laload, 1) := by decide +kernel
theorem dX0_balance_6 : decode cX0_balance 6 = .ok (.aload_n 0, 1) := by decide +kernel
theorem dX0_balance_7 : decode cX0_balance 7 = .ok (.getfield 23, 3) := by decide +kernel
theorem dX0_balance_10 : decode cX0_balance 10 = .ok (.iconst 1, 1) := by decide +kernel
theorem dX0_balance_11 : decode cX0_balance 11 = .ok (.laload, 1) := by decide +kernel
theorem dX0_balance_12 : decode cX0_balance 12 = .ok (.lsub, 1) := by decide +kernel
theorem dX0_balance_13 : decode cX0_balance 13 = .ok (.aload_n 0, 1) := by decide +kernel
theorem dX0_balance_14 : decode cX0_balance 14 = .ok (.getfield 23, 3) := by decide +kernel
theorem dX0_balance_17 : decode cX0_balance 17 = .ok (.iconst 3, 1) := by decide +kernel
theorem dX0_balance_18 : decode cX0_balance 18 = .ok (.laload, 1) := by decide +kernel
theorem dX0_balance_19 : decode cX0_balance 19 = .ok (.lsub, 1) := by decide +kernel
theorem dX0_balance_20 : decode cX0_balance 20 = .ok (.aload_n 0, 1) := by decide +kernel
theorem dX0_balance_21 : decode cX0_balance 21 = .ok (.getfield 23, 3) := by decide +kernel
theorem dX0_balance_24 : decode cX0_balance 24 = .ok (.iconst 4, 1) := by decide +kernel
theorem dX0_balance_25 : decode cX0_balance 25 = .ok (.laload, 1) := by decide +kernel
theorem dX0_balance_26 : decode cX0_balance 26 = .ok (.lsub, 1) := by decide +kernel
theorem dX0_balance_27 : decode cX0_balance 27 = .ok (.aload_n 0, 1) := by decide +kernel
theorem dX0_balance_28 : decode cX0_balance 28 = .ok (.getfield 23, 3) := by decide +kernel
theorem dX0_balance_31 : decode cX0_balance 31 = .ok (.iconst 5, 1) := by decide +kernel
theorem dX0_balance_32 : decode cX0_balance 32 = .ok (.laload, 1) := by decide +kernel
theorem dX0_balance_33 : decode cX0_balance 33 = .ok (.lsub, 1) := by decide +kernel
theorem dX0_balance_34 : decode cX0_balance 34 = .ok (.aload_n 0, 1) := by decide +kernel
theorem dX0_balance_35 : decode cX0_balance 35 = .ok (.getfield 23, 3) := by decide +kernel
theorem dX0_balance_38 : decode cX0_balance 38 = .ok (.bipush 6, 2) := by decide +kernel
theorem dX0_balance_40 : decode cX0_balance 40 = .ok (.laload, 1) := by decide +kernel
theorem dX0_balance_41 : decode cX0_balance 41 = .ok (.lsub, 1) := by decide +kernel
theorem dX0_balance_42 : decode cX0_balance 42 = .ok (.aload_n 0, 1) := by decide +kernel
theorem dX0_balance_43 : decode cX0_balance 43 = .ok (.getfield 23, 3) := by decide +kernel
theorem dX0_balance_46 : decode cX0_balance 46 = .ok (.bipush 7, 2) := by decide +kernel
theorem dX0_balance_48 : decode cX0_balance 48 = .ok (.laload, 1) := by decide +kernel
theorem dX0_balance_49 : decode cX0_balance 49 = .ok (.lsub, 1) := by decide +kernel
theorem dX0_balance_50 : decode cX0_balance 50 = .ok (.aload_n 0, 1) := by decide +kernel
theorem dX0_balance_51 : decode cX0_balance 51 = .ok (.getfield 23, 3) := by decide +kernel
theorem dX0_balance_54 : decode cX0_balance 54 = .ok (.bipush 8, 2) := by decide +kernel
theorem dX0_balance_56 : decode cX0_balance 56 = .ok (.laload, 1) := by decide +kernel
theorem dX0_balance_57 : decode cX0_balance 57 = .ok (.lsub, 1) := by decide +kernel
theorem dX0_balance_58 : decode cX0_balance 58 = .ok (.lstore_n 1, 1) := by decide +kernel
theorem dX0_balance_59 : decode cX0_balance 59 = .ok (.iconst 0, 1) := by decide +kernel
theorem dX0_balance_60 : decode cX0_balance 60 = .ok (.istore_n 3, 1) := by decide +kernel
theorem dX0_balance_61 : decode cX0_balance 61 = .ok (.iload_n 3, 1) := by decide +kernel
theorem dX0_balance_62 : decode cX0_balance 62 = .ok (.aload_n 0, 1) := by decide +kernel
theorem dX0_balance_63 : decode cX0_balance 63 = .ok (.getfield 50, 3) := by decide +kernel
theorem dX0_balance_66 : decode cX0_balance 66 = .ok (.arraylength, 1) := by decide +kernel
theorem dX0_balance_67 : decode cX0_balance 67 = .ok (.if_icmp .ge 18, 3) := by decide +kernel
theorem dX0_balance_70 : decode cX0_balance 70 = .ok (.lload_n 1, 1) := by decide +kernel
theorem dX0_balance_71 : decode cX0_balance 71 = .ok (.aload_n 0, 1) := by decide +kernel
theorem dX0_balance_72 : decode cX0_balance 72 = .ok (.getfield 50, 3) := by decide +kernel
theorem dX0_balance_75 : decode cX0_balance 75 = .ok (.iload_n 3, 1) := by decide +kernel
theorem dX0_balance_76 : decode cX0_balance 76 = .ok (.laload, 1) := by decide +kernel
theorem dX0_balance_77 : decode cX0_balance 77 = .ok (.lsub, 1) := by decide +kernel
theorem dX0_balance_78 : decode cX0_balance 78 = .ok (.lstore_n 1, 1) := by decide +kernel
theorem dX0_balance_79 : decode cX0_balance 79 = .ok (.iinc 3 1, 3) := by decide +kernel
theorem dX0_balance_82 : decode cX0_balance 82 = .ok (.goto (-21), 3) := by decide +kernel
theorem dX0_balance_85 : decode cX0_balance 85 = .ok (.lload_n 1, 1) := by decide +kernel
theorem dX0_balance_86 : decode cX0_balance 86 = .ok (.lreturn, 1) := by decide +kernel
theorem dX0_limit_0 : decode cX0_limit 0 = .ok (.lload_n 1, 1) := by decide +kernel
theorem dX0_limit_1 : decode cX0_limit 1 = .ok (.ldc2_w 35, 3) := by decide +kernel
theorem dX0_limit_4 : decode cX0_limit 4 = .ok (.ldc2_w 85, 3) := by decide +kernel
theorem dX0_limit_7 : decode cX0_limit 7 = .ok (.invokestatic 46, 3) := by decide +kernel
theorem dX0_limit_10 : decode cX0_limit 10 = .ok (.ifCond .eq 16, 3) := by decide +kernel
theorem dX0_limit_13 : decode cX0_limit 13 = .ok (.lload_n 3, 1) := by decide +kernel
theorem dX0_limit_14 : decode cX0_limit 14 = .ok (.ldc2_w 35, 3) := by decide +kernel
theorem dX0_limit_17 : decode cX0_limit 17 = .ok (.ldc2_w 85, 3) := by decide +kernel
theorem dX0_limit_20 : decode cX0_limit 20 = .ok (.invokestatic 46, 3) := by decide +kernel
theorem dX0_limit_23 : decode cX0_limit 23 = .ok (.ifCond .ne 5, 3) := by decide +kernel
theorem dX0_limit_26 : decode cX0_limit 26 = .ok (.iconst 0, 1) := by decide +kernel
theorem dX0_limit_27 : decode cX0_limit 27 = .ok (.ireturn, 1) := by decide +kernel
theorem dX0_limit_28 : decode cX0_limit 28 = .ok (.aload_n 0, 1) := by decide +kernel
theorem dX0_limit_29 : decode cX0_limit 29 = .ok (.lload_n 1, 1) := by decide +kernel
theorem dX0_limit_30 : decode cX0_limit 30 = .ok (.putfield 37, 3) := by decide +kernel
theorem dX0_limit_33 : decode cX0_limit 33 = .ok (.aload_n 0, 1) := by decide +kernel
theorem dX0_limit_34 : decode cX0_limit 34 = .ok (.lload_n 3, 1) := by decide +kernel
theorem dX0_limit_35 : decode cX0_limit 35 = .ok (.putfield 41, 3) := by decide +kernel
theorem dX0_limit_38 : decode cX0_limit 38 = .ok (.iconst 1, 1) := by decide +kernel
theorem dX0_limit_39 : decode cX0_limit 39 = .ok (.ireturn, 1) := by decide +kernel
theorem dX0_passed_0 : decode cX0_passed 0 = .ok (.iload_n 1, 1) := by decide +kernel
theorem dX0_passed_1 : decode cX0_passed 1 = .ok (.ifCond .ne 9, 3) := by decide +kernel
theorem dX0_passed_4 : decode cX0_passed 4 = .ok (.aload_n 0, 1) := by decide +kernel
theorem dX0_passed_5 : decode cX0_passed 5 = .ok (.iload_n 2, 1) := by decide +kernel
theorem dX0_passed_6 : decode cX0_passed 6 = .ok (.invokevirtual 110, 3) := by decide +kernel
theorem dX0_passed_9 : decode cX0_passed 9 = .ok (.ireturn, 1) := by decide +kernel
theorem dX0_passed_10 : decode cX0_passed 10 = .ok (.iload_n 1, 1) := by decide +kernel
theorem dX0_passed_11 : decode cX0_passed 11 = .ok (.iconst 1, 1) := by decide +kernel
theorem dX0_passed_12 : decode cX0_passed 12 = .ok (.if_icmp .ne 11, 3) := by decide +kernel
theorem dX0_passed_15 : decode cX0_passed 15 = .ok (.aload_n 0, 1) := by decide +kernel
theorem dX0_passed_16 : decode cX0_passed 16 = .ok (.iload_n 2, 1) := by decide +kernel
theorem dX0_passed_17 : decode cX0_passed 17 = .ok (.invokevirtual 114, 3) := by decide +kernel
theorem dX0_passed_20 : decode cX0_passed 20 = .ok (.goto 4, 3) := by decide +kernel
theorem dX0_passed_23 : decode cX0_passed 23 = .ok (.iconst (-1), 1) := by decide +kernel
theorem dX0_passed_24 : decode cX0_passed 24 = .ok (.ireturn, 1) := by decide +kernel
theorem dX0_dayThatPasses_0 : decode cX0_dayThatPasses 0 = .ok (.aload_n 0, 1) := by decide +kernel
theorem dX0_dayThatPasses_1 : decode cX0_dayThatPasses 1 = .ok (.getfield 37, 3) := by decide +kernel
theorem dX0_dayThatPasses_4 : decode cX0_dayThatPasses 4 = .ok (.ldc2_w 35, 3) := by decide +kernel
theorem dX0_dayThatPasses_7 : decode cX0_dayThatPasses 7 = .ok (.lcmp, 1) := by decide +kernel
theorem dX0_dayThatPasses_8 : decode cX0_dayThatPasses 8 = .ok (.ifCond .ne 5, 3) := by decide +kernel
theorem dX0_dayThatPasses_11 : decode cX0_dayThatPasses 11 = .ok (.iconst (-1), 1) := by decide +kernel
theorem dX0_dayThatPasses_12 : decode cX0_dayThatPasses 12 = .ok (.ireturn, 1) := by decide +kernel
theorem dX0_dayThatPasses_13 : decode cX0_dayThatPasses 13 = .ok (.iconst 0, 1) := by decide +kernel
theorem dX0_dayThatPasses_14 : decode cX0_dayThatPasses 14 = .ok (.istore_n 2, 1) := by decide +kernel
theorem dX0_dayThatPasses_15 : decode cX0_dayThatPasses 15 = .ok (.iconst 0, 1) := by decide +kernel
theorem dX0_dayThatPasses_16 : decode cX0_dayThatPasses 16 = .ok (.istore_n 3, 1) := by decide +kernel
theorem dX0_dayThatPasses_17 : decode cX0_dayThatPasses 17 = .ok (.iload_n 3, 1) := by decide +kernel
theorem dX0_dayThatPasses_18 : decode cX0_dayThatPasses 18 = .ok (.aload_n 0, 1) := by decide +kernel
theorem dX0_dayThatPasses_19 : decode cX0_dayThatPasses 19 = .ok (.getfield 93, 3) := by decide +kernel
theorem dX0_dayThatPasses_22 : decode cX0_dayThatPasses 22 = .ok (.if_icmp .ge 33, 3) := by decide +kernel
theorem dX0_dayThatPasses_25 : decode cX0_dayThatPasses 25 = .ok (.aload_n 0, 1) := by decide +kernel
theorem dX0_dayThatPasses_26 : decode cX0_dayThatPasses 26 = .ok (.getfield 19, 3) := by decide +kernel
theorem dX0_dayThatPasses_29 : decode cX0_dayThatPasses 29 = .ok (.iload_n 3, 1) := by decide +kernel
theorem dX0_dayThatPasses_30 : decode cX0_dayThatPasses 30 = .ok (.laload, 1) := by decide +kernel
theorem dX0_dayThatPasses_31 : decode cX0_dayThatPasses 31 = .ok (.aload_n 0, 1) := by decide +kernel
theorem dX0_dayThatPasses_32 : decode cX0_dayThatPasses 32 = .ok (.getfield 37, 3) := by decide +kernel
theorem dX0_dayThatPasses_35 : decode cX0_dayThatPasses 35 = .ok (.lcmp, 1) := by decide +kernel
theorem dX0_dayThatPasses_36 : decode cX0_dayThatPasses 36 = .ok (.ifCond .le 13, 3) := by decide +kernel
theorem dX0_dayThatPasses_39 : decode cX0_dayThatPasses 39 = .ok (.iload_n 2, 1) := by decide +kernel
theorem dX0_dayThatPasses_40 : decode cX0_dayThatPasses 40 = .ok (.iload_n 1, 1) := by decide +kernel
theorem dX0_dayThatPasses_41 : decode cX0_dayThatPasses 41 = .ok (.if_icmp .ne 5, 3) := by decide +kernel
theorem dX0_dayThatPasses_44 : decode cX0_dayThatPasses 44 = .ok (.iload_n 3, 1) := by decide +kernel
theorem dX0_dayThatPasses_45 : decode cX0_dayThatPasses 45 = .ok (.ireturn, 1) := by decide +kernel
theorem dX0_dayThatPasses_46 : decode cX0_dayThatPasses 46 = .ok (.iinc 2 1, 3) := by decide +kernel
theorem dX0_dayThatPasses_49 : decode cX0_dayThatPasses 49 = .ok (.iinc 3 1, 3) := by decide +kernel
theorem dX0_dayThatPasses_52 : decode cX0_dayThatPasses 52 = .ok (.goto (-35), 3) := by decide +kernel
theorem dX0_dayThatPasses_55 : decode cX0_dayThatPasses 55 = .ok (.iconst (-1), 1) := by decide +kernel
theorem dX0_dayThatPasses_56 : decode cX0_dayThatPasses 56 = .ok (.ireturn, 1) := by decide +kernel
theorem dX0_dayUpToWhichMeanPasses_0 : decode cX0_dayUpToWhichMeanPasses 0 = .ok (.aload_n 0, 1) := by decide +kernel
theorem dX0_dayUpToWhichMeanPasses_1 : decode cX0_dayUpToWhichMeanPasses 1 = .ok (.getfield 41, 3) := by decide +kernel
theorem dX0_dayUpToWhichMeanPasses_4 : decode cX0_dayUpToWhichMeanPasses 4 = .ok (.ldc2_w 35, 3) := by decide +kernel
theorem dX0_dayUpToWhichMeanPasses_7 : decode cX0_dayUpToWhichMeanPasses 7 = .ok (.lcmp, 1) := by decide +kernel
theorem dX0_dayUpToWhichMeanPasses_8 : decode cX0_dayUpToWhichMeanPasses 8 = .ok (.ifCond .ne 5, 3) := by decide +kernel
theorem dX0_dayUpToWhichMeanPasses_11 : decode cX0_dayUpToWhichMeanPasses 11 = .ok (.iconst (-1), 1) := by decide +kernel
theorem dX0_dayUpToWhichMeanPasses_12 : decode cX0_dayUpToWhichMeanPasses 12 = .ok (.ireturn, 1) := by decide +kernel
theorem dX0_dayUpToWhichMeanPasses_13 : decode cX0_dayUpToWhichMeanPasses 13 = .ok (.iconst 0, 1) := by decide +kernel
theorem dX0_dayUpToWhichMeanPasses_14 : decode cX0_dayUpToWhichMeanPasses 14 = .ok (.istore_n 2, 1) := by decide +kernel
theorem dX0_dayUpToWhichMeanPasses_15 : decode cX0_dayUpToWhichMeanPasses 15 = .ok (.lconst 0, 1) := by decide +kernel
theorem dX0_dayUpToWhichMeanPasses_16 : decode cX0_dayUpToWhichMeanPasses 16 = .ok (.lstore_n 3, 1) := by decide +kernel
theorem dX0_dayUpToWhichMeanPasses_17 : decode cX0_dayUpToWhichMeanPasses 17 = .ok (.iconst 0, 1) := by decide +kernel
theorem dX0_dayUpToWhichMeanPasses_18 : decode cX0_dayUpToWhichMeanPasses 18 = .ok (.istore 5, 2) := by decide +kernel
theorem dX0_dayUpToWhichMeanPasses_20 : decode cX0_dayUpToWhichMeanPasses 20 = .ok (.iload 5, 2) := by decide +kernel
theorem dX0_dayUpToWhichMeanPasses_22 : decode cX0_dayUpToWhichMeanPasses 22 = .ok (.aload_n 0, 1) := by decide +kernel
theorem dX0_dayUpToWhichMeanPasses_23 : decode cX0_dayUpToWhichMeanPasses 23 = .ok (.getfield 93, 3) := by decide +kernel
theorem dX0_dayUpToWhichMeanPasses_26 : decode cX0_dayUpToWhichMeanPasses 26 = .ok (.if_icmp .ge 45, 3) := by decide +kernel
theorem dX0_dayUpToWhichMeanPasses_29 : decode cX0_dayUpToWhichMeanPasses 29 = .ok (.lload_n 3, 1) := by decide +kernel
theorem dX0_dayUpToWhichMeanPasses_30 : decode cX0_dayUpToWhichMeanPasses 30 = .ok (.aload_n 0, 1) := by decide +kernel
theorem dX0_dayUpToWhichMeanPasses_31 : decode cX0_dayUpToWhichMeanPasses 31 = .ok (.getfield 19, 3) := by decide +kernel
theorem dX0_dayUpToWhichMeanPasses_34 : decode cX0_dayUpToWhichMeanPasses 34 = .ok (.iload 5, 2) := by decide +kernel
theorem dX0_dayUpToWhichMeanPasses_36 : decode cX0_dayUpToWhichMeanPasses 36 = .ok (.laload, 1) := by decide +kernel
theorem dX0_dayUpToWhichMeanPasses_37 : decode cX0_dayUpToWhichMeanPasses 37 = .ok (.ladd, 1) := by decide +kernel
theorem dX0_dayUpToWhichMeanPasses_38 : decode cX0_dayUpToWhichMeanPasses 38 = .ok (.lstore_n 3, 1) := by decide +kernel
theorem dX0_dayUpToWhichMeanPasses_39 : decode cX0_dayUpToWhichMeanPasses 39 = .ok (.lload_n 3, 1) := by decide +kernel
theorem dX0_dayUpToWhichMeanPasses_40 : decode cX0_dayUpToWhichMeanPasses 40 = .ok (.aload_n 0, 1) := by decide +kernel
theorem dX0_dayUpToWhichMeanPasses_41 : decode cX0_dayUpToWhichMeanPasses 41 = .ok (.getfield 41, 3) := by decide +kernel
theorem dX0_dayUpToWhichMeanPasses_44 : decode cX0_dayUpToWhichMeanPasses 44 = .ok (.iload 5, 2) := by decide +kernel
theorem dX0_dayUpToWhichMeanPasses_46 : decode cX0_dayUpToWhichMeanPasses 46 = .ok (.iconst 1, 1) := by decide +kernel
theorem dX0_dayUpToWhichMeanPasses_47 : decode cX0_dayUpToWhichMeanPasses 47 = .ok (.iadd, 1) := by decide +kernel
theorem dX0_dayUpToWhichMeanPasses_48 : decode cX0_dayUpToWhichMeanPasses 48 = .ok (.i2l, 1) := by decide +kernel
theorem dX0_dayUpToWhichMeanPasses_49 : decode cX0_dayUpToWhichMeanPasses 49 = .ok (.lmul, 1) := by decide +kernel
theorem dX0_dayUpToWhichMeanPasses_50 : decode cX0_dayUpToWhichMeanPasses 50 = .ok (.lcmp, 1) := by decide +kernel
theorem dX0_dayUpToWhichMeanPasses_51 : decode cX0_dayUpToWhichMeanPasses 51 = .ok (.ifCond .le 14, 3) := by decide +kernel
theorem dX0_dayUpToWhichMeanPasses_54 : decode cX0_dayUpToWhichMeanPasses 54 = .ok (.iload_n 2, 1) := by decide +kernel
theorem dX0_dayUpToWhichMeanPasses_55 : decode cX0_dayUpToWhichMeanPasses 55 = .ok (.iload_n 1, 1) := by decide +kernel
theorem dX0_dayUpToWhichMeanPasses_56 : decode cX0_dayUpToWhichMeanPasses 56 = .ok (.if_icmp .ne 6, 3) := by decide +kernel
theorem dX0_dayUpToWhichMeanPasses_59 : decode cX0_dayUpToWhichMeanPasses 59 = .ok (.iload 5, 2) := by decide +kernel
theorem dX0_dayUpToWhichMeanPasses_61 : decode cX0_dayUpToWhichMeanPasses 61 = .ok (.ireturn, 1) := by decide +kernel
theorem dX0_dayUpToWhichMeanPasses_62 : decode cX0_dayUpToWhichMeanPasses 62 = .ok (.iinc 2 1, 3) := by decide +kernel
theorem dX0_dayUpToWhichMeanPasses_65 : decode cX0_dayUpToWhichMeanPasses 65 = .ok (.iinc 5 1, 3) := by decide +kernel
theorem dX0_dayUpToWhichMeanPasses_68 : decode cX0_dayUpToWhichMeanPasses 68 = .ok (.goto (-48), 3) := by decide +kernel
theorem dX0_dayUpToWhichMeanPasses_71 : decode cX0_dayUpToWhichMeanPasses 71 = .ok (.iconst (-1), 1) := by decide +kernel
theorem dX0_dayUpToWhichMeanPasses_72 : decode cX0_dayUpToWhichMeanPasses 72 = .ok (.ireturn, 1) := by decide +kernel
theorem dX0_sample_0 : decode cX0_sample 0 = .ok (.iload_n 1, 1) := by decide +kernel
theorem dX0_sample_1 : decode cX0_sample 1 = .ok (.invokestatic 117, 3) := by decide +kernel
theorem dX0_sample_4 : decode cX0_sample 4 = .ok (.ifCond .eq 29, 3) := by decide +kernel
theorem dX0_sample_7 : decode cX0_sample 7 = .ok (.iload_n 2, 1) := by decide +kernel
theorem dX0_sample_8 : decode cX0_sample 8 = .ok (.i2l, 1) := by decide +kernel
theorem dX0_sample_9 : decode cX0_sample 9 = .ok (.lconst 0, 1) := by decide +kernel
theorem dX0_sample_10 : decode cX0_sample 10 = .ok (.ldc2_w 120, 3) := by decide +kernel
theorem dX0_sample_13 : decode cX0_sample 13 = .ok (.invokestatic 46, 3) := by decide +kernel
theorem dX0_sample_16 : decode cX0_sample 16 = .ok (.ifCond .eq 17, 3) := by decide +kernel
theorem dX0_sample_19 : decode cX0_sample 19 = .ok (.iload_n 3, 1) := by decide +kernel
theorem dX0_sample_20 : decode cX0_sample 20 = .ok (.i2l, 1) := by decide +kernel
theorem dX0_sample_21 : decode cX0_sample 21 = .ok (.ldc2_w 122, 3) := by decide +kernel
theorem dX0_sample_24 : decode cX0_sample 24 = .ok (.ldc2_w 70, 3) := by decide +kernel
theorem dX0_sample_27 : decode cX0_sample 27 = .ok (.invokestatic 46, 3) := by decide +kernel
theorem dX0_sample_30 : decode cX0_sample 30 = .ok (.ifCond .ne 5, 3) := by decide +kernel
theorem dX0_sample_33 : decode cX0_sample 33 = .ok (.iconst (-1), 1) := by decide +kernel
theorem dX0_sample_34 : decode cX0_sample 34 = .ok (.ireturn, 1) := by decide +kernel
theorem dX0_sample_35 : decode cX0_sample 35 = .ok (.aload_n 0, 1) := by decide +kernel
theorem dX0_sample_36 : decode cX0_sample 36 = .ok (.getfield 28, 3) := by decide +kernel
theorem dX0_sample_39 : decode cX0_sample 39 = .ok (.iload_n 1, 1) := by decide +kernel
theorem dX0_sample_40 : decode cX0_sample 40 = .ok (.aaload, 1) := by decide +kernel
theorem dX0_sample_41 : decode cX0_sample 41 = .ok (.iload_n 2, 1) := by decide +kernel
theorem dX0_sample_42 : decode cX0_sample 42 = .ok (.iload_n 3, 1) := by decide +kernel
theorem dX0_sample_43 : decode cX0_sample 43 = .ok (.invokevirtual 124, 3) := by decide +kernel
theorem dX0_sample_46 : decode cX0_sample 46 = .ok (.ifCond .eq 15, 3) := by decide +kernel
theorem dX0_sample_49 : decode cX0_sample 49 = .ok (.aload_n 0, 1) := by decide +kernel
theorem dX0_sample_50 : decode cX0_sample 50 = .ok (.getfield 28, 3) := by decide +kernel
theorem dX0_sample_53 : decode cX0_sample 53 = .ok (.iload_n 1, 1) := by decide +kernel
theorem dX0_sample_54 : decode cX0_sample 54 = .ok (.aaload, 1) := by decide +kernel
theorem dX0_sample_55 : decode cX0_sample 55 = .ok (.getfield 128, 3) := by decide +kernel
theorem dX0_sample_58 : decode cX0_sample 58 = .ok (.goto 4, 3) := by decide +kernel
theorem dX0_sample_61 : decode cX0_sample 61 = .ok (.iconst (-1), 1) := by decide +kernel
theorem dX0_sample_62 : decode cX0_sample 62 = .ok (.ireturn, 1) := by decide +kernel
theorem dX0_isWell_0 : decode cX0_isWell 0 = .ok (.iload_n 0, 1) := by decide +kernel
theorem dX0_isWell_1 : decode cX0_isWell 1 = .ok (.i2l, 1) := by decide +kernel
theorem dX0_isWell_2 : decode cX0_isWell 2 = .ok (.lconst 0, 1) := by decide +kernel
theorem dX0_isWell_3 : decode cX0_isWell 3 = .ok (.ldc2_w 147, 3) := by decide +kernel
theorem dX0_isWell_6 : decode cX0_isWell 6 = .ok (.invokestatic 46, 3) := by decide +kernel
theorem dX0_isWell_9 : decode cX0_isWell 9 = .ok (.ireturn, 1) := by decide +kernel
theorem dX0_trend_0 : decode cX0_trend 0 = .ok (.iload_n 1, 1) := by decide +kernel
theorem dX0_trend_1 : decode cX0_trend 1 = .ok (.invokestatic 117, 3) := by decide +kernel
theorem dX0_trend_4 : decode cX0_trend 4 = .ok (.ifCond .eq 15, 3) := by decide +kernel
theorem dX0_trend_7 : decode cX0_trend 7 = .ok (.aload_n 0, 1) := by decide +kernel
theorem dX0_trend_8 : decode cX0_trend 8 = .ok (.getfield 28, 3) := by decide +kernel
theorem dX0_trend_11 : decode cX0_trend 11 = .ok (.iload_n 1, 1) := by decide +kernel
theorem dX0_trend_12 : decode cX0_trend 12 = .ok (.aaload, 1) := by decide +kernel
theorem dX0_trend_13 : decode cX0_trend 13 = .ok (.invokevirtual 131, 3) := by decide +kernel
theorem dX0_trend_16 : decode cX0_trend 16 = .ok (.goto 4, 3) := by decide +kernel
theorem dX0_trend_19 : decode cX0_trend 19 = .ok (.iconst 0, 1) := by decide +kernel
theorem dX0_trend_20 : decode cX0_trend 20 = .ok (.ireturn, 1) := by decide +kernel
theorem dX0_odds_0 : decode cX0_odds 0 = .ok (.iload_n 1, 1) := by decide +kernel
theorem dX0_odds_1 : decode cX0_odds 1 = .ok (.invokestatic 117, 3) := by decide +kernel
theorem dX0_odds_4 : decode cX0_odds 4 = .ok (.ifCond .eq 13, 3) := by decide +kernel
theorem dX0_odds_7 : decode cX0_odds 7 = .ok (.iload_n 2, 1) := by decide +kernel
theorem dX0_odds_8 : decode cX0_odds 8 = .ok (.i2l, 1) := by decide +kernel
theorem dX0_odds_9 : decode cX0_odds 9 = .ok (.lconst 0, 1) := by decide +kernel
theorem dX0_odds_10 : decode cX0_odds 10 = .ok (.lconst 1, 1) := by decide +kernel
theorem dX0_odds_11 : decode cX0_odds 11 = .ok (.invokestatic 46, 3) := by decide +kernel
theorem dX0_odds_14 : decode cX0_odds 14 = .ok (.ifCond .ne 5, 3) := by decide +kernel
theorem dX0_odds_17 : decode cX0_odds 17 = .ok (.iconst (-1), 1) := by decide +kernel
theorem dX0_odds_18 : decode cX0_odds 18 = .ok (.ireturn, 1) := by decide +kernel
theorem dX0_odds_19 : decode cX0_odds 19 = .ok (.aload_n 0, 1) := by decide +kernel
theorem dX0_odds_20 : decode cX0_odds 20 = .ok (.getfield 28, 3) := by decide +kernel
theorem dX0_odds_23 : decode cX0_odds 23 = .ok (.iload_n 1, 1) := by decide +kernel
theorem dX0_odds_24 : decode cX0_odds 24 = .ok (.aaload, 1) := by decide +kernel
theorem dX0_odds_25 : decode cX0_odds 25 = .ok (.getfield 128, 3) := by decide +kernel
theorem dX0_odds_28 : decode cX0_odds 28 = .ok (.istore_n 3, 1) := by decide +kernel
theorem dX0_odds_29 : decode cX0_odds 29 = .ok (.aload_n 0, 1) := by decide +kernel
theorem dX0_odds_30 : decode cX0_odds 30 = .ok (.iload_n 3, 1) := by decide +kernel
theorem dX0_odds_31 : decode cX0_odds 31 = .ok (.aload_n 0, 1) := by decide +kernel
theorem dX0_odds_32 : decode cX0_odds 32 = .ok (.getfield 28, 3) := by decide +kernel
theorem dX0_odds_35 : decode cX0_odds 35 = .ok (.iload_n 1, 1) := by decide +kernel
theorem dX0_odds_36 : decode cX0_odds 36 = .ok (.aaload, 1) := by decide +kernel
theorem dX0_odds_37 : decode cX0_odds 37 = .ok (.invokevirtual 131, 3) := by decide +kernel
theorem dX0_odds_40 : decode cX0_odds 40 = .ok (.invokevirtual 135, 3) := by decide +kernel
theorem dX0_odds_43 : decode cX0_odds 43 = .ok (.istore 4, 2) := by decide +kernel
theorem dX0_odds_45 : decode cX0_odds 45 = .ok (.iload_n 3, 1) := by decide +kernel
theorem dX0_odds_46 : decode cX0_odds 46 = .ok (.invokestatic 139, 3) := by decide +kernel
theorem dX0_odds_49 : decode cX0_odds 49 = .ok (.istore 5, 2) := by decide +kernel
theorem dX0_odds_51 : decode cX0_odds 51 = .ok (.iload 5, 2) := by decide +kernel
theorem dX0_odds_53 : decode cX0_odds 53 = .ok (.iload 4, 2) := by decide +kernel
theorem dX0_odds_55 : decode cX0_odds 55 = .ok (.invokestatic 142, 3) := by decide +kernel
theorem dX0_odds_58 : decode cX0_odds 58 = .ok (.istore 6, 2) := by decide +kernel
theorem dX0_odds_60 : decode cX0_odds 60 = .ok (.iload_n 2, 1) := by decide +kernel
theorem dX0_odds_61 : decode cX0_odds 61 = .ok (.ifCond .ne 8, 3) := by decide +kernel
theorem dX0_odds_64 : decode cX0_odds 64 = .ok (.iload 4, 2) := by decide +kernel
theorem dX0_odds_66 : decode cX0_odds 66 = .ok (.goto 5, 3) := by decide +kernel
theorem dX0_odds_69 : decode cX0_odds 69 = .ok (.iload 5, 2) := by decide +kernel
theorem dX0_odds_71 : decode cX0_odds 71 = .ok (.iload 6, 2) := by decide +kernel
theorem dX0_odds_73 : decode cX0_odds 73 = .ok (.idiv, 1) := by decide +kernel
theorem dX0_odds_74 : decode cX0_odds 74 = .ok (.ireturn, 1) := by decide +kernel
theorem dX0_ordersAsFar_0 : decode cX0_ordersAsFar 0 = .ok (.aload_n 0, 1) := by decide +kernel
theorem dX0_ordersAsFar_1 : decode cX0_ordersAsFar 1 = .ok (.iload_n 1, 1) := by decide +kernel
theorem dX0_ordersAsFar_2 : decode cX0_ordersAsFar 2 = .ok (.invokevirtual 182, 3) := by decide +kernel
theorem dX0_ordersAsFar_5 : decode cX0_ordersAsFar 5 = .ok (.iload_n 1, 1) := by decide +kernel
theorem dX0_ordersAsFar_6 : decode cX0_ordersAsFar 6 = .ok (.iload_n 1, 1) := by decide +kernel
theorem dX0_ordersAsFar_7 : decode cX0_ordersAsFar 7 = .ok (.iconst 1, 1) := by decide +kernel
theorem dX0_ordersAsFar_8 : decode cX0_ordersAsFar 8 = .ok (.isub, 1) := by decide +kernel
theorem dX0_ordersAsFar_9 : decode cX0_ordersAsFar 9 = .ok (.imul, 1) := by decide +kernel
theorem dX0_ordersAsFar_10 : decode cX0_ordersAsFar 10 = .ok (.iconst 2, 1) := by decide +kernel
theorem dX0_ordersAsFar_11 : decode cX0_ordersAsFar 11 = .ok (.idiv, 1) := by decide +kernel
theorem dX0_ordersAsFar_12 : decode cX0_ordersAsFar 12 = .ok (.istore_n 3, 1) := by decide +kernel
theorem dX0_ordersAsFar_13 : decode cX0_ordersAsFar 13 = .ok (.iconst 0, 1) := by decide +kernel
theorem dX0_ordersAsFar_14 : decode cX0_ordersAsFar 14 = .ok (.istore 4, 2) := by decide +kernel
theorem dX0_ordersAsFar_16 : decode cX0_ordersAsFar 16 = .ok (.iconst 0, 1) := by decide +kernel
theorem dX0_ordersAsFar_17 : decode cX0_ordersAsFar 17 = .ok (.istore 5, 2) := by decide +kernel
theorem dX0_ordersAsFar_19 : decode cX0_ordersAsFar 19 = .ok (.iload 5, 2) := by decide +kernel
theorem dX0_ordersAsFar_21 : decode cX0_ordersAsFar 21 = .ok (.aload_n 0, 1) := by decide +kernel
theorem dX0_ordersAsFar_22 : decode cX0_ordersAsFar 22 = .ok (.getfield 32, 3) := by decide +kernel
theorem dX0_ordersAsFar_25 : decode cX0_ordersAsFar 25 = .ok (.arraylength, 1) := by decide +kernel
theorem dX0_ordersAsFar_26 : decode cX0_ordersAsFar 26 = .ok (.if_icmp .ge 43, 3) := by decide +kernel
theorem dX0_ordersAsFar_29 : decode cX0_ordersAsFar 29 = .ok (.iload 5, 2) := by decide +kernel
theorem dX0_ordersAsFar_31 : decode cX0_ordersAsFar 31 = .ok (.iload_n 3, 1) := by decide +kernel
theorem dX0_ordersAsFar_32 : decode cX0_ordersAsFar 32 = .ok (.if_icmp .gt 37, 3) := by decide +kernel
theorem dX0_ordersAsFar_35 : decode cX0_ordersAsFar 35 = .ok (.iload_n 3, 1) := by decide +kernel
theorem dX0_ordersAsFar_36 : decode cX0_ordersAsFar 36 = .ok (.iconst 2, 1) := by decide +kernel
theorem dX0_ordersAsFar_37 : decode cX0_ordersAsFar 37 = .ok (.iload 5, 2) := by decide +kernel
theorem dX0_ordersAsFar_39 : decode cX0_ordersAsFar 39 = .ok (.imul, 1) := by decide +kernel
theorem dX0_ordersAsFar_40 : decode cX0_ordersAsFar 40 = .ok (.isub, 1) := by decide +kernel
theorem dX0_ordersAsFar_41 : decode cX0_ordersAsFar 41 = .ok (.invokestatic 186, 3) := by decide +kernel
theorem dX0_ordersAsFar_44 : decode cX0_ordersAsFar 44 = .ok (.iload_n 2, 1) := by decide +kernel
theorem dX0_ordersAsFar_45 : decode cX0_ordersAsFar 45 = .ok (.invokestatic 186, 3) := by decide +kernel
theorem dX0_ordersAsFar_48 : decode cX0_ordersAsFar 48 = .ok (.if_icmp .lt 15, 3) := by decide +kernel
theorem dX0_ordersAsFar_51 : decode cX0_ordersAsFar 51 = .ok (.iload 4, 2) := by decide +kernel
theorem dX0_ordersAsFar_53 : decode cX0_ordersAsFar 53 = .ok (.aload_n 0, 1) := by decide +kernel
theorem dX0_ordersAsFar_54 : decode cX0_ordersAsFar 54 = .ok (.getfield 32, 3) := by decide +kernel
theorem dX0_ordersAsFar_57 : decode cX0_ordersAsFar 57 = .ok (.iload 5, 2) := by decide +kernel
theorem dX0_ordersAsFar_59 : decode cX0_ordersAsFar 59 = .ok (.iaload, 1) := by decide +kernel
theorem dX0_ordersAsFar_60 : decode cX0_ordersAsFar 60 = .ok (.iadd, 1) := by decide +kernel
theorem dX0_ordersAsFar_61 : decode cX0_ordersAsFar 61 = .ok (.istore 4, 2) := by decide +kernel
theorem dX0_ordersAsFar_63 : decode cX0_ordersAsFar 63 = .ok (.iinc 5 1, 3) := by decide +kernel
theorem dX0_ordersAsFar_66 : decode cX0_ordersAsFar 66 = .ok (.goto (-47), 3) := by decide +kernel
theorem dX0_ordersAsFar_69 : decode cX0_ordersAsFar 69 = .ok (.iload 4, 2) := by decide +kernel
theorem dX0_ordersAsFar_71 : decode cX0_ordersAsFar 71 = .ok (.ireturn, 1) := by decide +kernel
theorem dX0_countOrdersByFalls_0 : decode cX0_countOrdersByFalls 0 = .ok (.aload_n 0, 1) := by decide +kernel
theorem dX0_countOrdersByFalls_1 : decode cX0_countOrdersByFalls 1 = .ok (.getfield 32, 3) := by decide +kernel
theorem dX0_countOrdersByFalls_4 : decode cX0_countOrdersByFalls 4 = .ok (.iconst 0, 1) := by decide +kernel
theorem dX0_countOrdersByFalls_5 : decode cX0_countOrdersByFalls 5 = .ok (.invokestatic 59, 3) := by decide +kernel
theorem dX0_countOrdersByFalls_8 : decode cX0_countOrdersByFalls 8 = .ok (.aload_n 0, 1) := by decide +kernel
theorem dX0_countOrdersByFalls_9 : decode cX0_countOrdersByFalls 9 = .ok (.getfield 32, 3) := by decide +kernel
theorem dX0_countOrdersByFalls_12 : decode cX0_countOrdersByFalls 12 = .ok (.iconst 0, 1) := by decide +kernel
theorem dX0_countOrdersByFalls_13 : decode cX0_countOrdersByFalls 13 = .ok (.iconst 1, 1) := by decide +kernel
theorem dX0_countOrdersByFalls_14 : decode cX0_countOrdersByFalls 14 = .ok (.iastore, 1) := by decide +kernel
theorem dX0_countOrdersByFalls_15 : decode cX0_countOrdersByFalls 15 = .ok (.iconst 2, 1) := by decide +kernel
theorem dX0_countOrdersByFalls_16 : decode cX0_countOrdersByFalls 16 = .ok (.istore_n 2, 1) := by decide +kernel
theorem dX0_countOrdersByFalls_17 : decode cX0_countOrdersByFalls 17 = .ok (.iload_n 2, 1) := by decide +kernel
theorem dX0_countOrdersByFalls_18 : decode cX0_countOrdersByFalls 18 = .ok (.iload_n 1, 1) := by decide +kernel
theorem dX0_countOrdersByFalls_19 : decode cX0_countOrdersByFalls 19 = .ok (.if_icmp .gt 14, 3) := by decide +kernel
theorem dX0_countOrdersByFalls_22 : decode cX0_countOrdersByFalls 22 = .ok (.aload_n 0, 1) := by decide +kernel
theorem dX0_countOrdersByFalls_23 : decode cX0_countOrdersByFalls 23 = .ok (.iload_n 2, 1) := by decide +kernel
theorem dX0_countOrdersByFalls_24 : decode cX0_countOrdersByFalls 24 = .ok (.invokevirtual 189, 3) := by decide +kernel
theorem dX0_countOrdersByFalls_27 : decode cX0_countOrdersByFalls 27 = .ok (.iinc 2 1, 3) := by decide +kernel
theorem dX0_countOrdersByFalls_30 : decode cX0_countOrdersByFalls 30 = .ok (.goto (-13), 3) := by decide +kernel
theorem dX0_countOrdersByFalls_33 : decode cX0_countOrdersByFalls 33 = .ok (.return_, 1) := by decide +kernel
theorem dX0_addValueToOrders_0 : decode cX0_addValueToOrders 0 = .ok (.iconst 1, 1) := by decide +kernel
theorem dX0_addValueToOrders_1 : decode cX0_addValueToOrders 1 = .ok (.istore_n 2, 1) := by decide +kernel
theorem dX0_addValueToOrders_2 : decode cX0_addValueToOrders 2 = .ok (.iload_n 2, 1) := by decide +kernel
theorem dX0_addValueToOrders_3 : decode cX0_addValueToOrders 3 = .ok (.aload_n 0, 1) := by decide +kernel
theorem dX0_addValueToOrders_4 : decode cX0_addValueToOrders 4 = .ok (.getfield 32, 3) := by decide +kernel
theorem dX0_addValueToOrders_7 : decode cX0_addValueToOrders 7 = .ok (.arraylength, 1) := by decide +kernel
theorem dX0_addValueToOrders_8 : decode cX0_addValueToOrders 8 = .ok (.if_icmp .ge 26, 3) := by decide +kernel
theorem dX0_addValueToOrders_11 : decode cX0_addValueToOrders 11 = .ok (.aload_n 0, 1) := by decide +kernel
theorem dX0_addValueToOrders_12 : decode cX0_addValueToOrders 12 = .ok (.getfield 32, 3) := by decide +kernel
theorem dX0_addValueToOrders_15 : decode cX0_addValueToOrders 15 = .ok (.iload_n 2, 1) := by decide +kernel
theorem dX0_addValueToOrders_16 : decode cX0_addValueToOrders 16 = .ok (.dup2, 1) := by decide +kernel
theorem dX0_addValueToOrders_17 : decode cX0_addValueToOrders 17 = .ok (.iaload, 1) := by decide +kernel
theorem dX0_addValueToOrders_18 : decode cX0_addValueToOrders 18 = .ok (.aload_n 0, 1) := by decide +kernel
theorem dX0_addValueToOrders_19 : decode cX0_addValueToOrders 19 = .ok (.getfield 32, 3) := by decide +kernel
theorem dX0_addValueToOrders_22 : decode cX0_addValueToOrders 22 = .ok (.iload_n 2, 1) := by decide +kernel
theorem dX0_addValueToOrders_23 : decode cX0_addValueToOrders 23 = .ok (.iconst 1, 1) := by decide +kernel
theorem dX0_addValueToOrders_24 : decode cX0_addValueToOrders 24 = .ok (.isub, 1) := by decide +kernel
theorem dX0_addValueToOrders_25 : decode cX0_addValueToOrders 25 = .ok (.iaload, 1) := by decide +kernel
theorem dX0_addValueToOrders_26 : decode cX0_addValueToOrders 26 = .ok (.iadd, 1) := by decide +kernel
theorem dX0_addValueToOrders_27 : decode cX0_addValueToOrders 27 = .ok (.iastore, 1) := by decide +kernel
theorem dX0_addValueToOrders_28 : decode cX0_addValueToOrders 28 = .ok (.iinc 2 1, 3) := by decide +kernel
theorem dX0_addValueToOrders_31 : decode cX0_addValueToOrders 31 = .ok (.goto (-29), 3) := by decide +kernel
theorem dX0_addValueToOrders_34 : decode cX0_addValueToOrders 34 = .ok (.aload_n 0, 1) := by decide +kernel
theorem dX0_addValueToOrders_35 : decode cX0_addValueToOrders 35 = .ok (.getfield 32, 3) := by decide +kernel
theorem dX0_addValueToOrders_38 : decode cX0_addValueToOrders 38 = .ok (.arraylength, 1) := by decide +kernel
theorem dX0_addValueToOrders_39 : decode cX0_addValueToOrders 39 = .ok (.iconst 1, 1) := by decide +kernel
theorem dX0_addValueToOrders_40 : decode cX0_addValueToOrders 40 = .ok (.isub, 1) := by decide +kernel
theorem dX0_addValueToOrders_41 : decode cX0_addValueToOrders 41 = .ok (.istore_n 2, 1) := by decide +kernel
theorem dX0_addValueToOrders_42 : decode cX0_addValueToOrders 42 = .ok (.iload_n 2, 1) := by decide +kernel
theorem dX0_addValueToOrders_43 : decode cX0_addValueToOrders 43 = .ok (.iload_n 1, 1) := by decide +kernel
theorem dX0_addValueToOrders_44 : decode cX0_addValueToOrders 44 = .ok (.if_icmp .lt 26, 3) := by decide +kernel
theorem dX0_addValueToOrders_47 : decode cX0_addValueToOrders 47 = .ok (.aload_n 0, 1) := by decide +kernel
theorem dX0_addValueToOrders_48 : decode cX0_addValueToOrders 48 = .ok (.getfield 32, 3) := by decide +kernel
theorem dX0_addValueToOrders_51 : decode cX0_addValueToOrders 51 = .ok (.iload_n 2, 1) := by decide +kernel
theorem dX0_addValueToOrders_52 : decode cX0_addValueToOrders 52 = .ok (.dup2, 1) := by decide +kernel
theorem dX0_addValueToOrders_53 : decode cX0_addValueToOrders 53 = .ok (.iaload, 1) := by decide +kernel
theorem dX0_addValueToOrders_54 : decode cX0_addValueToOrders 54 = .ok (.aload_n 0, 1) := by decide +kernel
theorem dX0_addValueToOrders_55 : decode cX0_addValueToOrders 55 = .ok (.getfield 32, 3) := by decide +kernel
theorem dX0_addValueToOrders_58 : decode cX0_addValueToOrders 58 = .ok (.iload_n 2, 1) := by decide +kernel
theorem dX0_addValueToOrders_59 : decode cX0_addValueToOrders 59 = .ok (.iload_n 1, 1) := by decide +kernel
theorem dX0_addValueToOrders_60 : decode cX0_addValueToOrders 60 = .ok (.isub, 1) := by decide +kernel
theorem dX0_addValueToOrders_61 : decode cX0_addValueToOrders 61 = .ok (.iaload, 1) := by decide +kernel
theorem dX0_addValueToOrders_62 : decode cX0_addValueToOrders 62 = .ok (.isub, 1) := by decide +kernel
theorem dX0_addValueToOrders_63 : decode cX0_addValueToOrders 63 = .ok (.iastore, 1) := by decide +kernel
theorem dX0_addValueToOrders_64 : decode cX0_addValueToOrders 64 = .ok (.iinc 2 (-1), 3) := by decide +kernel
theorem dX0_addValueToOrders_67 : decode cX0_addValueToOrders 67 = .ok (.goto (-25), 3) := by decide +kernel
theorem dX0_addValueToOrders_70 : decode cX0_addValueToOrders 70 = .ok (.return_, 1) := by decide +kernel
theorem dX0_ordersOf_0 : decode cX0_ordersOf 0 = .ok (.iconst 1, 1) := by decide +kernel
theorem dX0_ordersOf_1 : decode cX0_ordersOf 1 = .ok (.istore_n 1, 1) := by decide +kernel
theorem dX0_ordersOf_2 : decode cX0_ordersOf 2 = .ok (.iconst 2, 1) := by decide +kernel
theorem dX0_ordersOf_3 : decode cX0_ordersOf 3 = .ok (.istore_n 2, 1) := by decide +kernel
theorem dX0_ordersOf_4 : decode cX0_ordersOf 4 = .ok (.iload_n 2, 1) := by decide +kernel
theorem dX0_ordersOf_5 : decode cX0_ordersOf 5 = .ok (.iload_n 0, 1) := by decide +kernel
theorem dX0_ordersOf_6 : decode cX0_ordersOf 6 = .ok (.if_icmp .gt 13, 3) := by decide +kernel
theorem dX0_ordersOf_9 : decode cX0_ordersOf 9 = .ok (.iload_n 1, 1) := by decide +kernel
theorem dX0_ordersOf_10 : decode cX0_ordersOf 10 = .ok (.iload_n 2, 1) := by decide +kernel
theorem dX0_ordersOf_11 : decode cX0_ordersOf 11 = .ok (.imul, 1) := by decide +kernel
theorem dX0_ordersOf_12 : decode cX0_ordersOf 12 = .ok (.istore_n 1, 1) := by decide +kernel
theorem dX0_ordersOf_13 : decode cX0_ordersOf 13 = .ok (.iinc 2 1, 3) := by decide +kernel
theorem dX0_ordersOf_16 : decode cX0_ordersOf 16 = .ok (.goto (-12), 3) := by decide +kernel
theorem dX0_ordersOf_19 : decode cX0_ordersOf 19 = .ok (.iload_n 1, 1) := by decide +kernel
theorem dX0_ordersOf_20 : decode cX0_ordersOf 20 = .ok (.ireturn, 1) := by decide +kernel
theorem dX0_commonDivisor_0 : decode cX0_commonDivisor 0 = .ok (.iload_n 0, 1) := by decide +kernel
theorem dX0_commonDivisor_1 : decode cX0_commonDivisor 1 = .ok (.istore_n 2, 1) := by decide +kernel
theorem dX0_commonDivisor_2 : decode cX0_commonDivisor 2 = .ok (.iload_n 1, 1) := by decide +kernel
theorem dX0_commonDivisor_3 : decode cX0_commonDivisor 3 = .ok (.istore_n 3, 1) := by decide +kernel
theorem dX0_commonDivisor_4 : decode cX0_commonDivisor 4 = .ok (.iconst 0, 1) := by decide +kernel
theorem dX0_commonDivisor_5 : decode cX0_commonDivisor 5 = .ok (.istore 4, 2) := by decide +kernel
theorem dX0_commonDivisor_7 : decode cX0_commonDivisor 7 = .ok (.iload 4, 2) := by decide +kernel
theorem dX0_commonDivisor_9 : decode cX0_commonDivisor 9 = .ok (.bipush 64, 2) := by decide +kernel
theorem dX0_commonDivisor_11 : decode cX0_commonDivisor 11 = .ok (.if_icmp .ge 23, 3) := by decide +kernel
theorem dX0_commonDivisor_14 : decode cX0_commonDivisor 14 = .ok (.iload_n 3, 1) := by decide +kernel
theorem dX0_commonDivisor_15 : decode cX0_commonDivisor 15 = .ok (.ifCond .eq 19, 3) := by decide +kernel
theorem dX0_commonDivisor_18 : decode cX0_commonDivisor 18 = .ok (.iload_n 2, 1) := by decide +kernel
theorem dX0_commonDivisor_19 : decode cX0_commonDivisor 19 = .ok (.iload_n 3, 1) := by decide +kernel
theorem dX0_commonDivisor_20 : decode cX0_commonDivisor 20 = .ok (.irem, 1) := by decide +kernel
theorem dX0_commonDivisor_21 : decode cX0_commonDivisor 21 = .ok (.istore 5, 2) := by decide +kernel
theorem dX0_commonDivisor_23 : decode cX0_commonDivisor 23 = .ok (.iload_n 3, 1) := by decide +kernel
theorem dX0_commonDivisor_24 : decode cX0_commonDivisor 24 = .ok (.istore_n 2, 1) := by decide +kernel
theorem dX0_commonDivisor_25 : decode cX0_commonDivisor 25 = .ok (.iload 5, 2) := by decide +kernel
theorem dX0_commonDivisor_27 : decode cX0_commonDivisor 27 = .ok (.istore_n 3, 1) := by decide +kernel
theorem dX0_commonDivisor_28 : decode cX0_commonDivisor 28 = .ok (.iinc 4 1, 3) := by decide +kernel
theorem dX0_commonDivisor_31 : decode cX0_commonDivisor 31 = .ok (.goto (-24), 3) := by decide +kernel
theorem dX0_commonDivisor_34 : decode cX0_commonDivisor 34 = .ok (.iconst 1, 1) := by decide +kernel
theorem dX0_commonDivisor_35 : decode cX0_commonDivisor 35 = .ok (.iload_n 2, 1) := by decide +kernel
theorem dX0_commonDivisor_36 : decode cX0_commonDivisor 36 = .ok (.invokestatic 192, 3) := by decide +kernel
theorem dX0_commonDivisor_39 : decode cX0_commonDivisor 39 = .ok (.ireturn, 1) := by decide +kernel
theorem dJ_fill_0 : decode cJ_fill 0 = .ok (.iconst 0, 1) := by decide +kernel
theorem dJ_fill_1 : decode cJ_fill 1 = .ok (.istore_n 2, 1) := by decide +kernel
theorem dJ_fill_2 : decode cJ_fill 2 = .ok (.aload_n 0, 1) := by decide +kernel
theorem dJ_fill_3 : decode cJ_fill 3 = .ok (.arraylength, 1) := by decide +kernel
theorem dJ_fill_4 : decode cJ_fill 4 = .ok (.istore_n 3, 1) := by decide +kernel
theorem dJ_fill_5 : decode cJ_fill 5 = .ok (.iload_n 2, 1) := by decide +kernel
theorem dJ_fill_6 : decode cJ_fill 6 = .ok (.iload_n 3, 1) := by decide +kernel
theorem dJ_fill_7 : decode cJ_fill 7 = .ok (.if_icmp .ge 13, 3) := by decide +kernel
theorem dJ_fill_10 : decode cJ_fill 10 = .ok (.aload_n 0, 1) := by decide +kernel
theorem dJ_fill_11 : decode cJ_fill 11 = .ok (.iload_n 2, 1) := by decide +kernel
theorem dJ_fill_12 : decode cJ_fill 12 = .ok (.iload_n 1, 1) := by decide +kernel
theorem dJ_fill_13 : decode cJ_fill 13 = .ok (.iastore, 1) := by decide +kernel
theorem dJ_fill_14 : decode cJ_fill 14 = .ok (.iinc 2 1, 3) := by decide +kernel
theorem dJ_fill_17 : decode cJ_fill 17 = .ok (.goto (-12), 3) := by decide +kernel
theorem dJ_fill_20 : decode cJ_fill 20 = .ok (.return_, 1) := by decide +kernel
theorem dX1_init_0 : decode cX1_init 0 = .ok (.aload_n 0, 1) := by decide +kernel
theorem dX1_init_1 : decode cX1_init 1 = .ok (.invokespecial 3, 3) := by decide +kernel
theorem dX1_init_4 : decode cX1_init 4 = .ok (.aload_n 0, 1) := by decide +kernel
theorem dX1_init_5 : decode cX1_init 5 = .ok (.bipush 8, 2) := by decide +kernel
theorem dX1_init_7 : decode cX1_init 7 = .ok (.newarray .int, 2) := by decide +kernel
theorem dX1_init_9 : decode cX1_init 9 = .ok (.putfield 9, 3) := by decide +kernel
theorem dX1_init_12 : decode cX1_init 12 = .ok (.aload_n 0, 1) := by decide +kernel
theorem dX1_init_13 : decode cX1_init 13 = .ok (.iconst (-1), 1) := by decide +kernel
theorem dX1_init_14 : decode cX1_init 14 = .ok (.putfield 15, 3) := by decide +kernel
theorem dX1_init_17 : decode cX1_init 17 = .ok (.return_, 1) := by decide +kernel
theorem dX1_take_0 : decode cX1_take 0 = .ok (.aload_n 0, 1) := by decide +kernel
theorem dX1_take_1 : decode cX1_take 1 = .ok (.getfield 19, 3) := by decide +kernel
theorem dX1_take_4 : decode cX1_take 4 = .ok (.bipush 8, 2) := by decide +kernel
theorem dX1_take_6 : decode cX1_take 6 = .ok (.if_icmp .ge 19, 3) := by decide +kernel
theorem dX1_take_9 : decode cX1_take 9 = .ok (.iload_n 1, 1) := by decide +kernel
theorem dX1_take_10 : decode cX1_take 10 = .ok (.aload_n 0, 1) := by decide +kernel
theorem dX1_take_11 : decode cX1_take 11 = .ok (.getfield 15, 3) := by decide +kernel
theorem dX1_take_14 : decode cX1_take 14 = .ok (.if_icmp .le 11, 3) := by decide +kernel
theorem dX1_take_17 : decode cX1_take 17 = .ok (.aload_n 0, 1) := by decide +kernel
theorem dX1_take_18 : decode cX1_take 18 = .ok (.iload_n 2, 1) := by decide +kernel
theorem dX1_take_19 : decode cX1_take 19 = .ok (.invokevirtual 22, 3) := by decide +kernel
theorem dX1_take_22 : decode cX1_take 22 = .ok (.ifCond .eq 5, 3) := by decide +kernel
theorem dX1_take_25 : decode cX1_take 25 = .ok (.iconst 0, 1) := by decide +kernel
theorem dX1_take_26 : decode cX1_take 26 = .ok (.ireturn, 1) := by decide +kernel
theorem dX1_take_27 : decode cX1_take 27 = .ok (.aload_n 0, 1) := by decide +kernel
theorem dX1_take_28 : decode cX1_take 28 = .ok (.getfield 9, 3) := by decide +kernel
theorem dX1_take_31 : decode cX1_take 31 = .ok (.aload_n 0, 1) := by decide +kernel
theorem dX1_take_32 : decode cX1_take 32 = .ok (.getfield 19, 3) := by decide +kernel
theorem dX1_take_35 : decode cX1_take 35 = .ok (.iload_n 2, 1) := by decide +kernel
theorem dX1_take_36 : decode cX1_take 36 = .ok (.iastore, 1) := by decide +kernel
theorem dX1_take_37 : decode cX1_take 37 = .ok (.aload_n 0, 1) := by decide +kernel
theorem dX1_take_38 : decode cX1_take 38 = .ok (.dup, 1) := by decide +kernel
theorem dX1_take_39 : decode cX1_take 39 = .ok (.getfield 19, 3) := by decide +kernel
theorem dX1_take_42 : decode cX1_take 42 = .ok (.iconst 1, 1) := by decide +kernel
theorem dX1_take_43 : decode cX1_take 43 = .ok (.iadd, 1) := by decide +kernel
theorem dX1_take_44 : decode cX1_take 44 = .ok (.putfield 19, 3) := by decide +kernel
theorem dX1_take_47 : decode cX1_take 47 = .ok (.aload_n 0, 1) := by decide +kernel
theorem dX1_take_48 : decode cX1_take 48 = .ok (.iload_n 1, 1) := by decide +kernel
theorem dX1_take_49 : decode cX1_take 49 = .ok (.putfield 15, 3) := by decide +kernel
theorem dX1_take_52 : decode cX1_take 52 = .ok (.iconst 1, 1) := by decide +kernel
theorem dX1_take_53 : decode cX1_take 53 = .ok (.ireturn, 1) := by decide +kernel
theorem dX1_has_0 : decode cX1_has 0 = .ok (.iconst 0, 1) := by decide +kernel
theorem dX1_has_1 : decode cX1_has 1 = .ok (.istore_n 2, 1) := by decide +kernel
theorem dX1_has_2 : decode cX1_has 2 = .ok (.iload_n 2, 1) := by decide +kernel
theorem dX1_has_3 : decode cX1_has 3 = .ok (.aload_n 0, 1) := by decide +kernel
theorem dX1_has_4 : decode cX1_has 4 = .ok (.getfield 19, 3) := by decide +kernel
theorem dX1_has_7 : decode cX1_has 7 = .ok (.if_icmp .ge 21, 3) := by decide +kernel
theorem dX1_has_10 : decode cX1_has 10 = .ok (.aload_n 0, 1) := by decide +kernel
theorem dX1_has_11 : decode cX1_has 11 = .ok (.getfield 9, 3) := by decide +kernel
theorem dX1_has_14 : decode cX1_has 14 = .ok (.iload_n 2, 1) := by decide +kernel
theorem dX1_has_15 : decode cX1_has 15 = .ok (.iaload, 1) := by decide +kernel
theorem dX1_has_16 : decode cX1_has 16 = .ok (.iload_n 1, 1) := by decide +kernel
theorem dX1_has_17 : decode cX1_has 17 = .ok (.if_icmp .ne 5, 3) := by decide +kernel
theorem dX1_has_20 : decode cX1_has 20 = .ok (.iconst 1, 1) := by decide +kernel
theorem dX1_has_21 : decode cX1_has 21 = .ok (.ireturn, 1) := by decide +kernel
theorem dX1_has_22 : decode cX1_has 22 = .ok (.iinc 2 1, 3) := by decide +kernel
theorem dX1_has_25 : decode cX1_has 25 = .ok (.goto (-23), 3) := by decide +kernel
theorem dX1_has_28 : decode cX1_has 28 = .ok (.iconst 0, 1) := by decide +kernel
theorem dX1_has_29 : decode cX1_has 29 = .ok (.ireturn, 1) := by decide +kernel
theorem dX1_risesLessFalls_0 : decode cX1_risesLessFalls 0 = .ok (.iconst 0, 1) := by decide +kernel
theorem dX1_risesLessFalls_1 : decode cX1_risesLessFalls 1 = .ok (.istore_n 1, 1) := by decide +kernel
theorem dX1_risesLessFalls_2 : decode cX1_risesLessFalls 2 = .ok (.iconst 1, 1) := by decide +kernel
theorem dX1_risesLessFalls_3 : decode cX1_risesLessFalls 3 = .ok (.istore_n 2, 1) := by decide +kernel
theorem dX1_risesLessFalls_4 : decode cX1_risesLessFalls 4 = .ok (.iload_n 2, 1) := by decide +kernel
theorem dX1_risesLessFalls_5 : decode cX1_risesLessFalls 5 = .ok (.aload_n 0, 1) := by decide +kernel
theorem dX1_risesLessFalls_6 : decode cX1_risesLessFalls 6 = .ok (.getfield 19, 3) := by decide +kernel
theorem dX1_risesLessFalls_9 : decode cX1_risesLessFalls 9 = .ok (.if_icmp .ge 40, 3) := by decide +kernel
theorem dX1_risesLessFalls_12 : decode cX1_risesLessFalls 12 = .ok (.iconst 0, 1) := by decide +kernel
theorem dX1_risesLessFalls_13 : decode cX1_risesLessFalls 13 = .ok (.istore_n 3, 1) := by decide +kernel
theorem dX1_risesLessFalls_14 : decode cX1_risesLessFalls 14 = .ok (.iload_n 3, 1) := by decide +kernel
theorem dX1_risesLessFalls_15 : decode cX1_risesLessFalls 15 = .ok (.iload_n 2, 1) := by decide +kernel
theorem dX1_risesLessFalls_16 : decode cX1_risesLessFalls 16 = .ok (.if_icmp .ge 27, 3) := by decide +kernel
theorem dX1_risesLessFalls_19 : decode cX1_risesLessFalls 19 = .ok (.iload_n 1, 1) := by decide +kernel
theorem dX1_risesLessFalls_20 : decode cX1_risesLessFalls 20 = .ok (.aload_n 0, 1) := by decide +kernel
theorem dX1_risesLessFalls_21 : decode cX1_risesLessFalls 21 = .ok (.getfield 9, 3) := by decide +kernel
theorem dX1_risesLessFalls_24 : decode cX1_risesLessFalls 24 = .ok (.iload_n 2, 1) := by decide +kernel
theorem dX1_risesLessFalls_25 : decode cX1_risesLessFalls 25 = .ok (.iaload, 1) := by decide +kernel
theorem dX1_risesLessFalls_26 : decode cX1_risesLessFalls 26 = .ok (.aload_n 0, 1) := by decide +kernel
theorem dX1_risesLessFalls_27 : decode cX1_risesLessFalls 27 = .ok (.getfield 9, 3) := by decide +kernel
theorem dX1_risesLessFalls_30 : decode cX1_risesLessFalls 30 = .ok (.iload_n 3, 1) := by decide +kernel
theorem dX1_risesLessFalls_31 : decode cX1_risesLessFalls 31 = .ok (.iaload, 1) := by decide +kernel
theorem dX1_risesLessFalls_32 : decode cX1_risesLessFalls 32 = .ok (.invokestatic 26, 3) := by decide +kernel
theorem dX1_risesLessFalls_35 : decode cX1_risesLessFalls 35 = .ok (.iadd, 1) := by decide +kernel
theorem dX1_risesLessFalls_36 : decode cX1_risesLessFalls 36 = .ok (.istore_n 1, 1) := by decide +kernel
theorem dX1_risesLessFalls_37 : decode cX1_risesLessFalls 37 = .ok (.iinc 3 1, 3) := by decide +kernel
theorem dX1_risesLessFalls_40 : decode cX1_risesLessFalls 40 = .ok (.goto (-26), 3) := by decide +kernel
theorem dX1_risesLessFalls_43 : decode cX1_risesLessFalls 43 = .ok (.iinc 2 1, 3) := by decide +kernel
theorem dX1_risesLessFalls_46 : decode cX1_risesLessFalls 46 = .ok (.goto (-42), 3) := by decide +kernel
theorem dX1_risesLessFalls_49 : decode cX1_risesLessFalls 49 = .ok (.iload_n 1, 1) := by decide +kernel
theorem dX1_risesLessFalls_50 : decode cX1_risesLessFalls 50 = .ok (.ireturn, 1) := by decide +kernel
theorem dJ_compare_0 : decode cJ_compare 0 = .ok (.iload_n 0, 1) := by decide +kernel
theorem dJ_compare_1 : decode cJ_compare 1 = .ok (.iload_n 1, 1) := by decide +kernel
theorem dJ_compare_2 : decode cJ_compare 2 = .ok (.if_icmp .ge 7, 3) := by decide +kernel
theorem dJ_compare_5 : decode cJ_compare 5 = .ok (.iconst (-1), 1) := by decide +kernel
theorem dJ_compare_6 : decode cJ_compare 6 = .ok (.goto 13, 3) := by decide +kernel
theorem dJ_compare_9 : decode cJ_compare 9 = .ok (.iload_n 0, 1) := by decide +kernel
theorem dJ_compare_10 : decode cJ_compare 10 = .ok (.iload_n 1, 1) := by decide +kernel
theorem dJ_compare_11 : decode cJ_compare 11 = .ok (.if_icmp .ne 7, 3) := by decide +kernel
theorem dJ_compare_14 : decode cJ_compare 14 = .ok (.iconst 0, 1) := by decide +kernel
theorem dJ_compare_15 : decode cJ_compare 15 = .ok (.goto 4, 3) := by decide +kernel
theorem dJ_compare_18 : decode cJ_compare 18 = .ok (.iconst 1, 1) := by decide +kernel
theorem dJ_compare_19 : decode cJ_compare 19 = .ok (.ireturn, 1) := by decide +kernel
theorem dL_cell_0 : decode cL_cell 0 = .ok (.iload_n 1, 1) := by decide +kernel
theorem dL_cell_1 : decode cL_cell 1 = .ok (.aload_n 0, 1) := by decide +kernel
theorem dL_cell_2 : decode cL_cell 2 = .ok (.arraylength, 1) := by decide +kernel
theorem dL_cell_3 : decode cL_cell 3 = .ok (.if_icmp .ge 9, 3) := by decide +kernel
theorem dL_cell_6 : decode cL_cell 6 = .ok (.aload_n 0, 1) := by decide +kernel
theorem dL_cell_7 : decode cL_cell 7 = .ok (.iload_n 1, 1) := by decide +kernel
theorem dL_cell_8 : decode cL_cell 8 = .ok (.iaload, 1) := by decide +kernel
theorem dL_cell_9 : decode cL_cell 9 = .ok (.goto 4, 3) := by decide +kernel
theorem dL_cell_12 : decode cL_cell 12 = .ok (.iconst 0, 1) := by decide +kernel
theorem dL_cell_13 : decode cL_cell 13 = .ok (.ireturn, 1) := by decide +kernel
end
section
/-- the words that stay true at every call -/
def lw_gd : List Cond := lw_tbl.filter goodWord
theorem lw_gd_ok : ∀ w ∈ lw_gd, (w.onTables && w.keeps) = true ∨ ∃ ty, w = .arrayClass ty := fun w h => good_of_word (List.mem_filter.mp h).2
theorem lw_in {w : Cond} (h : w ∈ lw_tbl ∧ goodWord w = true) : w ∈ lw_gd := List.mem_filter.mpr h
theorem lw_at {w : Cond} (i : Nat) (h : tables_1[i]? = some w) (g : goodWord w = true) : w ∈ lw_gd := List.mem_filter.mpr ⟨List.mem_append_right _ (List.mem_of_getElem? h), g⟩
theorem iw_X0 : ∀ w ∈ u_ws RX0 TX0 18, w ∈ lw_gd := by
  have h : (u_ws RX0 TX0 18).all (fun w => decide (w ∈ lw_tbl ∧ goodWord w = true)) = true := by decide +kernel
  intro w hw
  exact lw_in (of_decide_eq_true (List.all_eq_true.mp h w hw))
theorem ki_X0 : Cond.initialized RX0 ∈ lw_gd := lw_in (by decide +kernel)
theorem kt_X0 : Cond.instantiable RX0 18 ∈ lw_gd := lw_in (by decide +kernel)
theorem iw_X1 : ∀ w ∈ u_ws RX1 TX1 3, w ∈ lw_gd := by
  have h : (u_ws RX1 TX1 3).all (fun w => decide (w ∈ lw_tbl ∧ goodWord w = true)) = true := by decide +kernel
  intro w hw
  exact lw_in (of_decide_eq_true (List.all_eq_true.mp h w hw))
theorem ki_X1 : Cond.initialized RX1 ∈ lw_gd := lw_in (by decide +kernel)
theorem kt_X1 : Cond.instantiable RX1 3 ∈ lw_gd := lw_in (by decide +kernel)
theorem iw_X2 : ∀ w ∈ u_ws RX2 TX2 22, w ∈ lw_gd := by
  have h : (u_ws RX2 TX2 22).all (fun w => decide (w ∈ lw_tbl ∧ goodWord w = true)) = true := by decide +kernel
  intro w hw
  exact lw_in (of_decide_eq_true (List.all_eq_true.mp h w hw))
theorem ki_X2 : Cond.initialized RX2 ∈ lw_gd := lw_in (by decide +kernel)
theorem kt_X2 : Cond.instantiable RX2 22 ∈ lw_gd := lw_in (by decide +kernel)
theorem ki_Math : Cond.initialized "java/lang/Math" ∈ lw_gd := lw_in (by decide +kernel)
theorem ka_int : Cond.arrayClass .int ∈ lw_gd := lw_in (by decide +kernel)
theorem ka_long : Cond.arrayClass .long ∈ lw_gd := lw_in (by decide +kernel)
theorem ks_objInit : Cond.instanceMethod objectInit ∈ lw_gd := lw_in (by decide +kernel)
theorem kc_objInit : Cond.code objectInit ⟨#[0xb1]⟩ 1 none ∈ lw_gd := lw_at 14 rfl rfl
theorem ks_max_long : Cond.static Lib.MathLoose.max_long.x ∈ lw_gd := lw_in (by decide +kernel)
theorem kc_max_long : Cond.code Lib.MathLoose.max_long.x Lib.MathLoose.max_long.code 4 (some .long) ∈ lw_gd := lw_at 169 rfl rfl
theorem ks_min_long : Cond.static Lib.MathLoose.min_long.x ∈ lw_gd := lw_in (by decide +kernel)
theorem kc_min_long : Cond.code Lib.MathLoose.min_long.x Lib.MathLoose.min_long.code 4 (some .long) ∈ lw_gd := lw_at 180 rfl rfl
theorem ks_max_int : Cond.static Lib.Math.max.name ∈ lw_gd := lw_in (by decide +kernel)
theorem kc_max_int : Cond.code Lib.Math.max.name Lib.Math.max.code 2 (some .int) ∈ lw_gd := lw_at 270 rfl rfl
theorem ks_abs_int : Cond.static Lib.Math.abs.name ∈ lw_gd := lw_in (by decide +kernel)
theorem kc_abs_int : Cond.code Lib.Math.abs.name Lib.Math.abs.code 1 (some .int) ∈ lw_gd := lw_at 261 rfl rfl
/-- what the tables say of nest mates and of arrays of wells -/
def zN (U : State) : Prop := va_Nw (.methodLinkNest RX0 65 yX1_init "LeachRows") U ∧ va_Nw (.fieldLinkNest RX0 128 RX1 "count" "I" "LeachRows") U ∧ va_AO RX1 U
theorem zN_warm {s U : State} (hW : s.WarmedH U.vm) (h : zN s) : zN U := ⟨va_Nw.warmM hW h.1, va_Nw.warmF hW h.2.1, va_AO.moved hW.alike h.2.2⟩
theorem zN_same {u U : State} (e : u.vm = U.vm) (h : zN u) : zN U := ⟨va_Nw.same rfl e h.1, va_Nw.same rfl e h.2.1, va_AO.moved (by rw [e]; exact Vm.Alike.refl _) h.2.2⟩
theorem zN_ao {s : State} (h : zN s) : va_AO RX1 s := h.2.2
theorem zN_wi {s : State} (h : zN s) : va_Nw (.methodLinkNest RX0 65 yX1_init "LeachRows") s := h.1
theorem kn_X0_128 {s : State} {args : Array Value} (h : zN s) : (Cond.fieldLinkNest RX0 128 RX1 "count" "I" "LeachRows").before args s = true := va_Nw.use rfl h.2.1
theorem kl_X0_3 : Cond.methodLink RX0 3 objectInit ∈ lw_gd := lw_in (by decide +kernel)
theorem kf_X0_9 : Cond.fieldLink RX0 9 RX0 "rates" "[I" ∈ lw_gd := lw_in (by decide +kernel)
theorem kf_X0_13 : Cond.fieldLink RX0 13 RX0 "keeps" "[I" ∈ lw_gd := lw_in (by decide +kernel)
theorem kf_X0_16 : Cond.fieldLink RX0 16 RX0 "rains" "[I" ∈ lw_gd := lw_in (by decide +kernel)
theorem kf_X0_19 : Cond.fieldLink RX0 19 RX0 "outflows" "[J" ∈ lw_gd := lw_in (by decide +kernel)
theorem kf_X0_23 : Cond.fieldLink RX0 23 RX0 "sums" "[J" ∈ lw_gd := lw_in (by decide +kernel)
theorem kd_X0_26 : Cond.classLink RX0 26 RX1 ∈ lw_gd := lw_in (by decide +kernel)
theorem kf_X0_28 : Cond.fieldLink RX0 28 RX0 "wells" "[LLeachRows$Well;" ∈ lw_gd := lw_in (by decide +kernel)
theorem kf_X0_32 : Cond.fieldLink RX0 32 RX0 "ordersByFalls" "[I" ∈ lw_gd := lw_in (by decide +kernel)
theorem kc_X0_35 : Cond.constantLong RX0 35 (-1) ∈ lw_gd := lw_in (by decide +kernel)
theorem kf_X0_37 : Cond.fieldLink RX0 37 RX0 "dayLimit" "J" ∈ lw_gd := lw_in (by decide +kernel)
theorem kf_X0_41 : Cond.fieldLink RX0 41 RX0 "meanLimit" "J" ∈ lw_gd := lw_in (by decide +kernel)
theorem kc_X0_44 : Cond.constantLong RX0 44 (6) ∈ lw_gd := lw_in (by decide +kernel)
theorem kf_X0_50 : Cond.fieldLink RX0 50 RX0 "water" "[J" ∈ lw_gd := lw_in (by decide +kernel)
theorem kf_X0_53 : Cond.fieldLink RX0 53 RX0 "holds" "[I" ∈ lw_gd := lw_in (by decide +kernel)
theorem kf_X0_56 : Cond.fieldLink RX0 56 RX0 "passes" "[I" ∈ lw_gd := lw_in (by decide +kernel)
theorem kv_X0_66 : Cond.instanceMethod yX0_isLayer ∈ lw_gd ∧ Cond.selects yX0_isLayer.cls yX0_isLayer yX0_isLayer ∈ lw_gd := ⟨lw_in (by decide +kernel), lw_in (by decide +kernel)⟩
theorem kc_X0_70 : Cond.constantLong RX0 70 (1000000) ∈ lw_gd := lw_in (by decide +kernel)
theorem kf_X0_75 : Cond.fieldLink RX0 75 RX0 "coverParts" "I" ∈ lw_gd := lw_in (by decide +kernel)
theorem kf_X0_79 : Cond.fieldLink RX0 79 RX0 "drainParts" "I" ∈ lw_gd := lw_in (by decide +kernel)
theorem kf_X0_82 : Cond.fieldLink RX0 82 RX0 "returnParts" "I" ∈ lw_gd := lw_in (by decide +kernel)
theorem kc_X0_85 : Cond.constantLong RX0 85 (1000000000) ∈ lw_gd := lw_in (by decide +kernel)
theorem kf_X0_87 : Cond.fieldLink RX0 87 RX0 "tankRoom" "J" ∈ lw_gd := lw_in (by decide +kernel)
theorem kf_X0_90 : Cond.fieldLink RX0 90 RX0 "stageCount" "I" ∈ lw_gd := lw_in (by decide +kernel)
theorem kf_X0_93 : Cond.fieldLink RX0 93 RX0 "nextDay" "I" ∈ lw_gd := lw_in (by decide +kernel)
theorem kc_X0_96 : Cond.constantLong RX0 96 (399) ∈ lw_gd := lw_in (by decide +kernel)
theorem kv_X0_98 : Cond.instanceMethod yX0_areDaysToRun ∈ lw_gd ∧ Cond.selects yX0_areDaysToRun.cls yX0_areDaysToRun yX0_areDaysToRun ∈ lw_gd := ⟨lw_in (by decide +kernel), lw_in (by decide +kernel)⟩
theorem kc_X0_101 : Cond.constantLong RX0 101 (6364136223846793005) ∈ lw_gd := lw_in (by decide +kernel)
theorem kc_X0_103 : Cond.constantLong RX0 103 (1442695040888963407) ∈ lw_gd := lw_in (by decide +kernel)
theorem kv_X0_105 : Cond.instanceMethod yX0_runNextDay ∈ lw_gd ∧ Cond.selects yX0_runNextDay.cls yX0_runNextDay yX0_runNextDay ∈ lw_gd := ⟨lw_in (by decide +kernel), lw_in (by decide +kernel)⟩
theorem kc_X0_108 : Cond.constantLong RX0 108 (8) ∈ lw_gd := lw_in (by decide +kernel)
theorem kv_X0_110 : Cond.instanceMethod yX0_dayThatPasses ∈ lw_gd ∧ Cond.selects yX0_dayThatPasses.cls yX0_dayThatPasses yX0_dayThatPasses ∈ lw_gd := ⟨lw_in (by decide +kernel), lw_in (by decide +kernel)⟩
theorem kv_X0_114 : Cond.instanceMethod yX0_dayUpToWhichMeanPasses ∈ lw_gd ∧ Cond.selects yX0_dayUpToWhichMeanPasses.cls yX0_dayUpToWhichMeanPasses yX0_dayUpToWhichMeanPasses ∈ lw_gd := ⟨lw_in (by decide +kernel), lw_in (by decide +kernel)⟩
theorem kc_X0_120 : Cond.constantLong RX0 120 (100000) ∈ lw_gd := lw_in (by decide +kernel)
theorem kc_X0_122 : Cond.constantLong RX0 122 (-1000000) ∈ lw_gd := lw_in (by decide +kernel)
theorem kv_X0_124 : Cond.instanceMethod yX1_take ∈ lw_gd ∧ Cond.selects yX1_take.cls yX1_take yX1_take ∈ lw_gd := ⟨lw_in (by decide +kernel), lw_in (by decide +kernel)⟩
theorem kv_X0_131 : Cond.instanceMethod yX1_risesLessFalls ∈ lw_gd ∧ Cond.selects yX1_risesLessFalls.cls yX1_risesLessFalls yX1_risesLessFalls ∈ lw_gd := ⟨lw_in (by decide +kernel), lw_in (by decide +kernel)⟩
theorem kv_X0_135 : Cond.instanceMethod yX0_ordersAsFar ∈ lw_gd ∧ Cond.selects yX0_ordersAsFar.cls yX0_ordersAsFar yX0_ordersAsFar ∈ lw_gd := ⟨lw_in (by decide +kernel), lw_in (by decide +kernel)⟩
theorem kc_X0_145 : Cond.constantLong RX0 145 (1000) ∈ lw_gd := lw_in (by decide +kernel)
theorem kc_X0_147 : Cond.constantLong RX0 147 (3) ∈ lw_gd := lw_in (by decide +kernel)
theorem kc_X0_149 : Cond.constantLong RX0 149 (100) ∈ lw_gd := lw_in (by decide +kernel)
theorem kv_X0_151 : Cond.instanceMethod yX0_comeIn ∈ lw_gd ∧ Cond.selects yX0_comeIn.cls yX0_comeIn yX0_comeIn ∈ lw_gd := ⟨lw_in (by decide +kernel), lw_in (by decide +kernel)⟩
theorem kv_X0_155 : Cond.instanceMethod yX0_passDown ∈ lw_gd ∧ Cond.selects yX0_passDown.cls yX0_passDown yX0_passDown ∈ lw_gd := ⟨lw_in (by decide +kernel), lw_in (by decide +kernel)⟩
theorem kv_X0_159 : Cond.instanceMethod yX0_fillTank ∈ lw_gd ∧ Cond.selects yX0_fillTank.cls yX0_fillTank yX0_fillTank ∈ lw_gd := ⟨lw_in (by decide +kernel), lw_in (by decide +kernel)⟩
theorem kv_X0_162 : Cond.instanceMethod yX0_clean ∈ lw_gd ∧ Cond.selects yX0_clean.cls yX0_clean yX0_clean ∈ lw_gd := ⟨lw_in (by decide +kernel), lw_in (by decide +kernel)⟩
theorem kv_X0_165 : Cond.instanceMethod yX0_partAtTheEnd ∈ lw_gd ∧ Cond.selects yX0_partAtTheEnd.cls yX0_partAtTheEnd yX0_partAtTheEnd ∈ lw_gd := ⟨lw_in (by decide +kernel), lw_in (by decide +kernel)⟩
theorem kl_X0_173 : Cond.methodLink RX0 173 Lib.MathLoose.max_long.x ∈ lw_gd := lw_in (by decide +kernel)
theorem kl_X0_179 : Cond.methodLink RX0 179 Lib.MathLoose.min_long.x ∈ lw_gd := lw_in (by decide +kernel)
theorem kv_X0_182 : Cond.instanceMethod yX0_countOrdersByFalls ∈ lw_gd ∧ Cond.selects yX0_countOrdersByFalls.cls yX0_countOrdersByFalls yX0_countOrdersByFalls ∈ lw_gd := ⟨lw_in (by decide +kernel), lw_in (by decide +kernel)⟩
theorem kl_X0_186 : Cond.methodLink RX0 186 Lib.Math.abs.name ∈ lw_gd := lw_in (by decide +kernel)
theorem kv_X0_189 : Cond.instanceMethod yX0_addValueToOrders ∈ lw_gd ∧ Cond.selects yX0_addValueToOrders.cls yX0_addValueToOrders yX0_addValueToOrders ∈ lw_gd := ⟨lw_in (by decide +kernel), lw_in (by decide +kernel)⟩
theorem kl_X0_192 : Cond.methodLink RX0 192 Lib.Math.max.name ∈ lw_gd := lw_in (by decide +kernel)
theorem kl_X1_3 : Cond.methodLink RX1 3 objectInit ∈ lw_gd := lw_in (by decide +kernel)
theorem kf_X1_9 : Cond.fieldLink RX1 9 RX1 "values" "[I" ∈ lw_gd := lw_in (by decide +kernel)
theorem kf_X1_15 : Cond.fieldLink RX1 15 RX1 "lastDay" "I" ∈ lw_gd := lw_in (by decide +kernel)
theorem kf_X1_19 : Cond.fieldLink RX1 19 RX1 "count" "I" ∈ lw_gd := lw_in (by decide +kernel)
theorem kv_X1_22 : Cond.instanceMethod yX1_has ∈ lw_gd ∧ Cond.selects yX1_has.cls yX1_has yX1_has ∈ lw_gd := ⟨lw_in (by decide +kernel), lw_in (by decide +kernel)⟩
theorem kl_X2_1 : Cond.methodLink RX2 1 objectInit ∈ lw_gd := lw_in (by decide +kernel)
theorem kf_X2_7 : Cond.fieldLink RX2 7 RX2 "waters" "[J" ∈ lw_gd := lw_in (by decide +kernel)
theorem kf_X2_13 : Cond.fieldLink RX2 13 RX2 "holds" "[I" ∈ lw_gd := lw_in (by decide +kernel)
theorem kf_X2_17 : Cond.fieldLink RX2 17 RX2 "passes" "[I" ∈ lw_gd := lw_in (by decide +kernel)
theorem kf_X2_20 : Cond.fieldLink RX2 20 RX2 "rates" "[I" ∈ lw_gd := lw_in (by decide +kernel)
theorem kf_X2_23 : Cond.fieldLink RX2 23 RX2 "keeps" "[I" ∈ lw_gd := lw_in (by decide +kernel)
theorem kf_X2_26 : Cond.fieldLink RX2 26 RX2 "rains" "[I" ∈ lw_gd := lw_in (by decide +kernel)
theorem kf_X2_29 : Cond.fieldLink RX2 29 RX2 "all" "[J" ∈ lw_gd := lw_in (by decide +kernel)
theorem kf_X2_32 : Cond.fieldLink RX2 32 RX2 "outflows" "[J" ∈ lw_gd := lw_in (by decide +kernel)
theorem kc_X2_35 : Cond.constantLong RX2 35 (-1) ∈ lw_gd := lw_in (by decide +kernel)
theorem kf_X2_37 : Cond.fieldLink RX2 37 RX2 "dayLimit" "J" ∈ lw_gd := lw_in (by decide +kernel)
theorem kf_X2_41 : Cond.fieldLink RX2 41 RX2 "meanLimit" "J" ∈ lw_gd := lw_in (by decide +kernel)
theorem kf_X2_44 : Cond.fieldLink RX2 44 RX2 "counts" "[I" ∈ lw_gd := lw_in (by decide +kernel)
theorem kf_X2_47 : Cond.fieldLink RX2 47 RX2 "sampleDays" "[I" ∈ lw_gd := lw_in (by decide +kernel)
theorem kf_X2_50 : Cond.fieldLink RX2 50 RX2 "values" "[I" ∈ lw_gd := lw_in (by decide +kernel)
theorem kf_X2_53 : Cond.fieldLink RX2 53 RX2 "orders" "[J" ∈ lw_gd := lw_in (by decide +kernel)
theorem kf_X2_56 : Cond.fieldLink RX2 56 RX2 "more" "[J" ∈ lw_gd := lw_in (by decide +kernel)
theorem kf_X2_59 : Cond.fieldLink RX2 59 RX2 "layers" "I" ∈ lw_gd := lw_in (by decide +kernel)
theorem kc_X2_67 : Cond.constantLong RX2 67 (1000000) ∈ lw_gd := lw_in (by decide +kernel)
theorem kf_X2_73 : Cond.fieldLink RX2 73 RX2 "cover" "I" ∈ lw_gd := lw_in (by decide +kernel)
theorem kf_X2_76 : Cond.fieldLink RX2 76 RX2 "drain" "I" ∈ lw_gd := lw_in (by decide +kernel)
theorem kf_X2_79 : Cond.fieldLink RX2 79 RX2 "back" "I" ∈ lw_gd := lw_in (by decide +kernel)
theorem kc_X2_82 : Cond.constantLong RX2 82 (1000000000) ∈ lw_gd := lw_in (by decide +kernel)
theorem kf_X2_84 : Cond.fieldLink RX2 84 RX2 "room" "J" ∈ lw_gd := lw_in (by decide +kernel)
theorem kf_X2_87 : Cond.fieldLink RX2 87 RX2 "stages" "I" ∈ lw_gd := lw_in (by decide +kernel)
theorem kf_X2_90 : Cond.fieldLink RX2 90 RX2 "next" "I" ∈ lw_gd := lw_in (by decide +kernel)
theorem kc_X2_93 : Cond.constantLong RX2 93 (399) ∈ lw_gd := lw_in (by decide +kernel)
theorem kc_X2_95 : Cond.constantLong RX2 95 (100) ∈ lw_gd := lw_in (by decide +kernel)
theorem kc_X2_97 : Cond.constantLong RX2 97 (6364136223846793005) ∈ lw_gd := lw_in (by decide +kernel)
theorem kc_X2_99 : Cond.constantLong RX2 99 (1442695040888963407) ∈ lw_gd := lw_in (by decide +kernel)
theorem kc_X2_101 : Cond.constantLong RX2 101 (1000) ∈ lw_gd := lw_in (by decide +kernel)
theorem kv_X2_107 : Cond.instanceMethod yX2_stagesRun ∈ lw_gd ∧ Cond.selects yX2_stagesRun.cls yX2_stagesRun yX2_stagesRun ∈ lw_gd := ⟨lw_in (by decide +kernel), lw_in (by decide +kernel)⟩
theorem kv_X2_110 : Cond.instanceMethod yX2_dayRuns ∈ lw_gd ∧ Cond.selects yX2_dayRuns.cls yX2_dayRuns yX2_dayRuns ∈ lw_gd := ⟨lw_in (by decide +kernel), lw_in (by decide +kernel)⟩
theorem kc_X2_113 : Cond.constantLong RX2 113 (8) ∈ lw_gd := lw_in (by decide +kernel)
theorem kc_X2_118 : Cond.constantLong RX2 118 (100000) ∈ lw_gd := lw_in (by decide +kernel)
theorem kc_X2_120 : Cond.constantLong RX2 120 (-1000000) ∈ lw_gd := lw_in (by decide +kernel)
theorem kv_X2_122 : Cond.instanceMethod yX2_trend ∈ lw_gd ∧ Cond.selects yX2_trend.cls yX2_trend yX2_trend ∈ lw_gd := ⟨lw_in (by decide +kernel), lw_in (by decide +kernel)⟩
theorem kv_X2_126 : Cond.instanceMethod yX2_countOrders ∈ lw_gd ∧ Cond.selects yX2_countOrders.cls yX2_countOrders yX2_countOrders ∈ lw_gd := ⟨lw_in (by decide +kernel), lw_in (by decide +kernel)⟩
theorem kd_L_7 : Cond.classLink RL 7 RX0 ∈ lw_gd := lw_in (by decide +kernel)
theorem kd_L_18 : Cond.classLink RL 18 RX2 ∈ lw_gd := lw_in (by decide +kernel)
theorem kv_L_21 : Cond.instanceMethod yX0_layer ∈ lw_gd ∧ Cond.selects yX0_layer.cls yX0_layer yX0_layer ∈ lw_gd := ⟨lw_in (by decide +kernel), lw_in (by decide +kernel)⟩
theorem kv_L_25 : Cond.instanceMethod yX2_layer ∈ lw_gd ∧ Cond.selects yX2_layer.cls yX2_layer yX2_layer ∈ lw_gd := ⟨lw_in (by decide +kernel), lw_in (by decide +kernel)⟩
theorem kv_L_26 : Cond.instanceMethod yX0_cover ∈ lw_gd ∧ Cond.selects yX0_cover.cls yX0_cover yX0_cover ∈ lw_gd := ⟨lw_in (by decide +kernel), lw_in (by decide +kernel)⟩
theorem kv_L_30 : Cond.instanceMethod yX2_cover ∈ lw_gd ∧ Cond.selects yX2_cover.cls yX2_cover yX2_cover ∈ lw_gd := ⟨lw_in (by decide +kernel), lw_in (by decide +kernel)⟩
theorem kv_L_31 : Cond.instanceMethod yX0_drain ∈ lw_gd ∧ Cond.selects yX0_drain.cls yX0_drain yX0_drain ∈ lw_gd := ⟨lw_in (by decide +kernel), lw_in (by decide +kernel)⟩
theorem kv_L_34 : Cond.instanceMethod yX2_drain ∈ lw_gd ∧ Cond.selects yX2_drain.cls yX2_drain yX2_drain ∈ lw_gd := ⟨lw_in (by decide +kernel), lw_in (by decide +kernel)⟩
theorem kv_L_35 : Cond.instanceMethod yX0_back ∈ lw_gd ∧ Cond.selects yX0_back.cls yX0_back yX0_back ∈ lw_gd := ⟨lw_in (by decide +kernel), lw_in (by decide +kernel)⟩
theorem kv_L_38 : Cond.instanceMethod yX2_back ∈ lw_gd ∧ Cond.selects yX2_back.cls yX2_back yX2_back ∈ lw_gd := ⟨lw_in (by decide +kernel), lw_in (by decide +kernel)⟩
theorem kc_L_39 : Cond.constantLong RL 39 (4294967295) ∈ lw_gd := lw_in (by decide +kernel)
theorem kv_L_41 : Cond.instanceMethod yX0_tank ∈ lw_gd ∧ Cond.selects yX0_tank.cls yX0_tank yX0_tank ∈ lw_gd := ⟨lw_in (by decide +kernel), lw_in (by decide +kernel)⟩
theorem kv_L_45 : Cond.instanceMethod yX2_tank ∈ lw_gd ∧ Cond.selects yX2_tank.cls yX2_tank yX2_tank ∈ lw_gd := ⟨lw_in (by decide +kernel), lw_in (by decide +kernel)⟩
theorem kv_L_46 : Cond.instanceMethod yX0_stage ∈ lw_gd ∧ Cond.selects yX0_stage.cls yX0_stage yX0_stage ∈ lw_gd := ⟨lw_in (by decide +kernel), lw_in (by decide +kernel)⟩
theorem kv_L_50 : Cond.instanceMethod yX2_stage ∈ lw_gd ∧ Cond.selects yX2_stage.cls yX2_stage yX2_stage ∈ lw_gd := ⟨lw_in (by decide +kernel), lw_in (by decide +kernel)⟩
theorem kv_L_51 : Cond.instanceMethod yX0_rain ∈ lw_gd ∧ Cond.selects yX0_rain.cls yX0_rain yX0_rain ∈ lw_gd := ⟨lw_in (by decide +kernel), lw_in (by decide +kernel)⟩
theorem kv_L_55 : Cond.instanceMethod yX2_rain ∈ lw_gd ∧ Cond.selects yX2_rain.cls yX2_rain yX2_rain ∈ lw_gd := ⟨lw_in (by decide +kernel), lw_in (by decide +kernel)⟩
theorem kv_L_56 : Cond.instanceMethod yX0_storm ∈ lw_gd ∧ Cond.selects yX0_storm.cls yX0_storm yX0_storm ∈ lw_gd := ⟨lw_in (by decide +kernel), lw_in (by decide +kernel)⟩
theorem kv_L_60 : Cond.instanceMethod yX2_storm ∈ lw_gd ∧ Cond.selects yX2_storm.cls yX2_storm yX2_storm ∈ lw_gd := ⟨lw_in (by decide +kernel), lw_in (by decide +kernel)⟩
theorem kv_L_61 : Cond.instanceMethod yX0_run ∈ lw_gd ∧ Cond.selects yX0_run.cls yX0_run yX0_run ∈ lw_gd := ⟨lw_in (by decide +kernel), lw_in (by decide +kernel)⟩
theorem kv_L_65 : Cond.instanceMethod yX2_run ∈ lw_gd ∧ Cond.selects yX2_run.cls yX2_run yX2_run ∈ lw_gd := ⟨lw_in (by decide +kernel), lw_in (by decide +kernel)⟩
theorem kv_L_66 : Cond.instanceMethod yX0_held ∈ lw_gd ∧ Cond.selects yX0_held.cls yX0_held yX0_held ∈ lw_gd := ⟨lw_in (by decide +kernel), lw_in (by decide +kernel)⟩
theorem kv_L_70 : Cond.instanceMethod yX2_held ∈ lw_gd ∧ Cond.selects yX2_held.cls yX2_held yX2_held ∈ lw_gd := ⟨lw_in (by decide +kernel), lw_in (by decide +kernel)⟩
theorem kv_L_71 : Cond.instanceMethod yX0_out ∈ lw_gd ∧ Cond.selects yX0_out.cls yX0_out yX0_out ∈ lw_gd := ⟨lw_in (by decide +kernel), lw_in (by decide +kernel)⟩
theorem kv_L_74 : Cond.instanceMethod yX2_out ∈ lw_gd ∧ Cond.selects yX2_out.cls yX2_out yX2_out ∈ lw_gd := ⟨lw_in (by decide +kernel), lw_in (by decide +kernel)⟩
theorem kv_L_75 : Cond.instanceMethod yX0_balance ∈ lw_gd ∧ Cond.selects yX0_balance.cls yX0_balance yX0_balance ∈ lw_gd := ⟨lw_in (by decide +kernel), lw_in (by decide +kernel)⟩
theorem kv_L_79 : Cond.instanceMethod yX2_balance ∈ lw_gd ∧ Cond.selects yX2_balance.cls yX2_balance yX2_balance ∈ lw_gd := ⟨lw_in (by decide +kernel), lw_in (by decide +kernel)⟩
theorem kv_L_80 : Cond.instanceMethod yX0_limit ∈ lw_gd ∧ Cond.selects yX0_limit.cls yX0_limit yX0_limit ∈ lw_gd := ⟨lw_in (by decide +kernel), lw_in (by decide +kernel)⟩
theorem kv_L_84 : Cond.instanceMethod yX2_limit ∈ lw_gd ∧ Cond.selects yX2_limit.cls yX2_limit yX2_limit ∈ lw_gd := ⟨lw_in (by decide +kernel), lw_in (by decide +kernel)⟩
theorem kv_L_85 : Cond.instanceMethod yX0_passed ∈ lw_gd ∧ Cond.selects yX0_passed.cls yX0_passed yX0_passed ∈ lw_gd := ⟨lw_in (by decide +kernel), lw_in (by decide +kernel)⟩
theorem kv_L_88 : Cond.instanceMethod yX2_passed ∈ lw_gd ∧ Cond.selects yX2_passed.cls yX2_passed yX2_passed ∈ lw_gd := ⟨lw_in (by decide +kernel), lw_in (by decide +kernel)⟩
theorem kv_L_89 : Cond.instanceMethod yX0_sample ∈ lw_gd ∧ Cond.selects yX0_sample.cls yX0_sample yX0_sample ∈ lw_gd := ⟨lw_in (by decide +kernel), lw_in (by decide +kernel)⟩
theorem kv_L_93 : Cond.instanceMethod yX2_sample ∈ lw_gd ∧ Cond.selects yX2_sample.cls yX2_sample yX2_sample ∈ lw_gd := ⟨lw_in (by decide +kernel), lw_in (by decide +kernel)⟩
theorem kv_L_94 : Cond.instanceMethod yX0_trend ∈ lw_gd ∧ Cond.selects yX0_trend.cls yX0_trend yX0_trend ∈ lw_gd := ⟨lw_in (by decide +kernel), lw_in (by decide +kernel)⟩
theorem kv_L_97 : Cond.instanceMethod yX2_trend ∈ lw_gd ∧ Cond.selects yX2_trend.cls yX2_trend yX2_trend ∈ lw_gd := ⟨lw_in (by decide +kernel), lw_in (by decide +kernel)⟩
theorem kv_L_98 : Cond.instanceMethod yX0_odds ∈ lw_gd ∧ Cond.selects yX0_odds.cls yX0_odds yX0_odds ∈ lw_gd := ⟨lw_in (by decide +kernel), lw_in (by decide +kernel)⟩
theorem kv_L_101 : Cond.instanceMethod yX2_odds ∈ lw_gd ∧ Cond.selects yX2_odds.cls yX2_odds yX2_odds ∈ lw_gd := ⟨lw_in (by decide +kernel), lw_in (by decide +kernel)⟩
theorem kc_X0_init : Cond.code yX0_init cX0_init 4 none ∈ lw_gd := lw_at 11 rfl rfl
theorem ks_X0_init : Cond.instanceMethod yX0_init ∈ lw_gd := lw_in (by decide +kernel)
theorem kc_X1_init : Cond.code yX1_init cX1_init 1 none ∈ lw_gd := lw_at 28 rfl rfl
theorem ks_X1_init : Cond.instanceMethod yX1_init ∈ lw_gd := lw_in (by decide +kernel)
theorem kc_X2_init : Cond.code yX2_init cX2_init 3 none ∈ lw_gd := lw_at 278 rfl rfl
theorem ks_X2_init : Cond.instanceMethod yX2_init ∈ lw_gd := lw_in (by decide +kernel)
theorem ks_fill : Cond.static yJ_fill ∈ lw_gd := lw_in (by decide +kernel)
end
section
/-! contracts in one form: the world before, the world behind, the answer -/
theorem zz_fm {α β : Type} (f : α → Option β) : ∀ (is : List α) (w : List β), is.map f = w.map some → is.filterMap f = w
  | [], [], _ => rfl
  | [], _ :: _, h => by cases h
  | _ :: _, [], h => by cases h
  | a :: is, b :: w, h => by
    have h1 : f a = some b := (List.cons.inj h).1
    have h2 : is.map f = w.map some := (List.cons.inj h).2
    rw [List.filterMap_cons, h1, zz_fm f is w h2]
theorem zz_rg {α : Type} (w : List α) : (List.range w.length).map (fun i => w[i]?) = w.map some := by
  apply List.ext_getElem?
  intro i
  by_cases h : i < w.length
  · simp [h]
  · simp [h]
theorem zz_nd_range : ∀ n, va_nd (List.range n) = true := by
  have key : ∀ (l : List Nat), l.Nodup → va_nd l = true := by
    intro l
    induction l with
    | nil => intro _; rfl
    | cons a l ih =>
      intro h
      have h2 := List.nodup_cons.mp h
      simp [va_nd, h2.1, ih h2.2]
  exact fun n => key _ List.nodup_range
def zc_P (D : va_G) (tys : List (ClassId × FieldType)) (av : List Value) (w0 : va_W) (sz : Nat) : Array Value → State → Prop :=
  va_Pc av (fun U => U.heap.size = sz ∧ va_P D vwCl w0 U.heap ∧ va_K D vwCl tys U ∧ va_D (fun _ => True) w0 ∧ zN U)
def zc_B {S : Type} (D : va_G) (A : Nat → Prop) (w1 : S → va_W) : S → State → Prop := fun u t => va_P D vwCl (w1 u) t.heap ∧ va_D A (w1 u)
theorem zc_blind (D : va_G) (tys : List (ClassId × FieldType)) (av : List Value) (w0 : va_W) (sz : Nat) : FrameBlind (zc_P D tys av w0 sz) := by
  intro a U g mk q
  obtain ⟨q0, q1, qP, qK, qD, qN⟩ := q
  exact ⟨q0, q1, qP, va_K.moved (u := U) (U := U.calling g mk a) (Vm.Alike.refl U.vm) qK, qD, zN_same (u := U) (U := U.calling g mk a) rfl qN⟩
/-- what stays the same in a method -/
def zX (D : va_G) (tys : List (ClassId × FieldType)) (p : Program) (s : State) (m : MethodId) (args : Array Value) (meth : Method) (c : Code) (cc : ByteArray) (ret : Option FieldType) (nL : Nat) (own : String) (A : Nat → Prop) : Prop :=
  p.tables.exec = Jvm.exec ∧ c.code = cc ∧ meth.sig.returnType = ret ∧ c.maxLocals = nL ∧ meth.locks = false ∧ s.vm.findClass own = some m.cls ∧ (∀ w ∈ lw_gd, w.before args s = true) ∧ va_K D vwCl tys s ∧ (∀ q : Nat, s.heap.size ≤ q → A q) ∧ zN s
section ZRET
variable {p : Program} {l : Launch} {e : Env} {R : Room} {s : State} {m : MethodId} {args : Array Value} {below : List Frame} {meth : Method} {c : Code} {H : Heap} {locs : List Loc} {cells slots : Nat} {Q : State → Prop}
theorem zi_ret {S : Type} {D : va_G} {A : Nat → Prop} {post : Int32 → S → Prop} {w1 : S → va_W} {mc ms : Nat} {cc : ByteArray} {ty : FieldType} {v : Int32} {pc : Nat} {ls : Array Slot} (hx : p.tables.exec = Jvm.exec) (hb : c.code = cc) (hr : meth.sig.returnType = some ty) (hlocks : meth.locks = false) (hn : narrow ty (.int v) = .int v) (u : S) (hpost : post v u) (hP : va_P D vwCl (w1 u) H) (hD : va_D A (w1 u)) (hS : va_S A s.heap H locs) (hc : cells ≤ mc) (hs : slots ≤ ms) (hdg : decode cc pc = .ok (.ireturn, 1)) :
    W p l e R s m args below meth c H locs cells slots (MQ below (va_Qi post (zc_B D A w1) A) args s mc ms A) (F0 m pc ls [.int v]) :=
  W.widen hc hs (W.zret hx hb hr hn (fun t ht hW => ⟨⟨v, u, rfl, hpost, by rw [ht]; exact hP, hD⟩, hS.F ht⟩) hS.2.2 hdg hlocks)
theorem zl_ret {S : Type} {D : va_G} {A : Nat → Prop} {post : Int64 → S → Prop} {w1 : S → va_W} {mc ms : Nat} {cc : ByteArray} {v : Int64} {pc : Nat} {ls : Array Slot} (hx : p.tables.exec = Jvm.exec) (hb : c.code = cc) (hr : meth.sig.returnType = some .long) (hlocks : meth.locks = false) (u : S) (hpost : post v u) (hP : va_P D vwCl (w1 u) H) (hD : va_D A (w1 u)) (hS : va_S A s.heap H locs) (hc : cells ≤ mc) (hs : slots ≤ ms) (hdg : decode cc pc = .ok (.lreturn, 1)) :
    W p l e R s m args below meth c H locs cells slots (MQ below (va_Ql post (zc_B D A w1) A) args s mc ms A) (F0 m pc ls [.long v]) :=
  W.widen hc hs (W.lret hx hb hr (fun t ht hW => ⟨⟨v, u, rfl, hpost, by rw [ht]; exact hP, hD⟩, hS.F ht⟩) hS.2.2 hdg hlocks)
theorem zv_ret {S : Type} {D : va_G} {A : Nat → Prop} {post : S → Prop} {w1 : S → va_W} {mc ms : Nat} {cc : ByteArray} {pc : Nat} {ls : Array Slot} (hx : p.tables.exec = Jvm.exec) (hb : c.code = cc) (hr : meth.sig.returnType = none) (hlocks : meth.locks = false) (u : S) (hpost : post u) (hP : va_P D vwCl (w1 u) H) (hD : va_D A (w1 u)) (hS : va_S A s.heap H locs) (hc : cells ≤ mc) (hs : slots ≤ ms) (hdg : decode cc pc = .ok (.return_, 1)) :
    W p l e R s m args below meth c H locs cells slots (MQ below (va_Qv post (zc_B D A w1) A) args s mc ms A) (F0 m pc ls []) :=
  W.widen hc hs (W.vret hx hb hr (fun t ht hW => ⟨⟨u, rfl, hpost, by rw [ht]; exact hP, hD⟩, hS.F ht⟩) hS.2.2 hdg hlocks)
end ZRET
def zc_i {S : Type} (l : Launch) (D : va_G) (tys : List (ClassId × FieldType)) (y : MethodName) (cc : ByteArray) (maxL : Nat) (ret : Option FieldType) (rm : Room) (av : List Value) (w0 : va_W) (post : Int32 → S → Prop) (w1 : S → va_W) (mc ms : Nat) : Prop :=
  ∀ sz : Nat, Met l y (.code y cc maxL ret :: lw_gd) rm (zc_P D tys av w0 sz) (va_Qi post (zc_B D (va_A w0 sz) w1) (va_A w0 sz)) mc ms (va_A w0 sz)
/-- the end of a method -/
def zi_R {S : Type} (p : Program) (l : Launch) (e : Env) (R : Room) (s : State) (m : MethodId) (args : Array Value) (below : List Frame) (meth : Method) (c : Code) (Q : State → Prop) (D : va_G) (cc : ByteArray) (ret : Option FieldType) (A : Nat → Prop) (post : Int32 → S → Prop) (w1 : S → va_W) (mc ms : Nat) : Prop :=
  ∀ (v : Int32) (u : S) (H : Heap) (locs : List Loc) (cells slots pc : Nat) (ls : Array Slot), narrow (ret.getD .int) (.int v) = .int v → post v u → va_P D vwCl (w1 u) H → va_D A (w1 u) → va_S A s.heap H locs → cells ≤ mc → slots ≤ ms → decode cc pc = .ok (.ireturn, 1) → W p l e R s m args below meth c H locs cells slots Q (F0 m pc ls [.int v])
theorem zi_of {S : Type} {l : Launch} {D : va_G} {tys : List (ClassId × FieldType)} {y : MethodName} {cc : ByteArray} {maxL : Nat} {ret : Option FieldType} {rm : Room} {av : List Value} {w0 : va_W} {post : Int32 → S → Prop} {w1 : S → va_W} {mc ms : Nat} (hy : plainName y.cls = true) (hle : (lg_sl av).length ≤ maxL) (hret : ret = some (ret.getD .int))
    (body : ∀ (p : Program) (e : Env) (s : State) (m : MethodId) (args : Array Value) (below : List Frame) (meth : Method) (c : Code) (A : Nat → Prop) (Q : State → Prop) (ls : Array Slot), zX D tys p s m args meth c cc ret maxL y.cls A → meth.name = y.name → va_P D vwCl w0 s.heap → va_D A w0 → va_S A s.heap s.heap [] → lv_has ls maxL (lv_args 0 av) → zi_R p l e rm s m args below meth c Q D cc ret A post w1 mc ms →
      W p l e rm s m args below meth c s.heap [] 0 0 Q (F0 m 0 ls [])) : zc_i l D tys y cc maxL ret rm av w0 post w1 mc ms := by
  intro sz
  refine Met.ofW (cc := cc) (maxL := maxL) (ret := ret) hy rfl ?_
  intro p e s m args below meth c s₁ B hml hv
  obtain ⟨rfl, hsz, hP, hK, hD0, hN⟩ := hv
  have hts := atoms_spec (ws := Cond.code y cc maxL ret :: lw_gd) B.pre
  have hown : s.vm.findClass y.cls = some m.cls := findClass_of_methodNamed B.named
  have hlocks := B.notSynchronized
  have hr := B.returns
  rw [hret] at hr
  subst hsz
  have hD := hD0.self (sz := s.heap.size)
  generalize hAe : va_A w0 s.heap.size = A at hD ⊢
  have hA : ∀ q : Nat, s.heap.size ≤ q → A q := fun q h => by rw [← hAe]; exact Or.inr h
  have hl := lv_entry av (n := maxL) hle
  rw [lg_entry_eq]
  generalize (lg_sl av ++ List.replicate (maxL - (lg_sl av).length) Slot.unset).toArray = ls at hl ⊢
  refine body p e s m av.toArray below meth c A _ ls ⟨B.exec, B.bytes, B.returns, hml, B.notSynchronized, hown, fun w h => hts w (List.mem_cons_of_mem _ h), hK, hA, hN⟩ (name_of_methodNamed B.named B.method).1 hP hD va_S.rf hl ?_
  intro v u H locs cells slots pc ls2 hn hpost hP hD hS hc hs hdg
  exact zi_ret B.exec B.bytes hr hlocks hn u hpost hP hD hS hc hs hdg
def zc_l {S : Type} (l : Launch) (D : va_G) (tys : List (ClassId × FieldType)) (y : MethodName) (cc : ByteArray) (maxL : Nat) (ret : Option FieldType) (rm : Room) (av : List Value) (w0 : va_W) (post : Int64 → S → Prop) (w1 : S → va_W) (mc ms : Nat) : Prop :=
  ∀ sz : Nat, Met l y (.code y cc maxL ret :: lw_gd) rm (zc_P D tys av w0 sz) (va_Ql post (zc_B D (va_A w0 sz) w1) (va_A w0 sz)) mc ms (va_A w0 sz)
/-- the end of a method -/
def zl_R {S : Type} (p : Program) (l : Launch) (e : Env) (R : Room) (s : State) (m : MethodId) (args : Array Value) (below : List Frame) (meth : Method) (c : Code) (Q : State → Prop) (D : va_G) (cc : ByteArray) (ret : Option FieldType) (A : Nat → Prop) (post : Int64 → S → Prop) (w1 : S → va_W) (mc ms : Nat) : Prop :=
  ∀ (v : Int64) (u : S) (H : Heap) (locs : List Loc) (cells slots pc : Nat) (ls : Array Slot), post v u → va_P D vwCl (w1 u) H → va_D A (w1 u) → va_S A s.heap H locs → cells ≤ mc → slots ≤ ms → decode cc pc = .ok (.lreturn, 1) → W p l e R s m args below meth c H locs cells slots Q (F0 m pc ls [.long v])
theorem zl_of {S : Type} {l : Launch} {D : va_G} {tys : List (ClassId × FieldType)} {y : MethodName} {cc : ByteArray} {maxL : Nat} {ret : Option FieldType} {rm : Room} {av : List Value} {w0 : va_W} {post : Int64 → S → Prop} {w1 : S → va_W} {mc ms : Nat} (hy : plainName y.cls = true) (hle : (lg_sl av).length ≤ maxL) (hret : ret = some .long)
    (body : ∀ (p : Program) (e : Env) (s : State) (m : MethodId) (args : Array Value) (below : List Frame) (meth : Method) (c : Code) (A : Nat → Prop) (Q : State → Prop) (ls : Array Slot), zX D tys p s m args meth c cc ret maxL y.cls A → meth.name = y.name → va_P D vwCl w0 s.heap → va_D A w0 → va_S A s.heap s.heap [] → lv_has ls maxL (lv_args 0 av) → zl_R p l e rm s m args below meth c Q D cc ret A post w1 mc ms →
      W p l e rm s m args below meth c s.heap [] 0 0 Q (F0 m 0 ls [])) : zc_l l D tys y cc maxL ret rm av w0 post w1 mc ms := by
  intro sz
  refine Met.ofW (cc := cc) (maxL := maxL) (ret := ret) hy rfl ?_
  intro p e s m args below meth c s₁ B hml hv
  obtain ⟨rfl, hsz, hP, hK, hD0, hN⟩ := hv
  have hts := atoms_spec (ws := Cond.code y cc maxL ret :: lw_gd) B.pre
  have hown : s.vm.findClass y.cls = some m.cls := findClass_of_methodNamed B.named
  have hlocks := B.notSynchronized
  have hr := B.returns
  rw [hret] at hr
  subst hsz
  have hD := hD0.self (sz := s.heap.size)
  generalize hAe : va_A w0 s.heap.size = A at hD ⊢
  have hA : ∀ q : Nat, s.heap.size ≤ q → A q := fun q h => by rw [← hAe]; exact Or.inr h
  have hl := lv_entry av (n := maxL) hle
  rw [lg_entry_eq]
  generalize (lg_sl av ++ List.replicate (maxL - (lg_sl av).length) Slot.unset).toArray = ls at hl ⊢
  refine body p e s m av.toArray below meth c A _ ls ⟨B.exec, B.bytes, B.returns, hml, B.notSynchronized, hown, fun w h => hts w (List.mem_cons_of_mem _ h), hK, hA, hN⟩ (name_of_methodNamed B.named B.method).1 hP hD va_S.rf hl ?_
  intro v u H locs cells slots pc ls2 hpost hP hD hS hc hs hdg
  exact zl_ret B.exec B.bytes hr hlocks u hpost hP hD hS hc hs hdg
def zc_v {S : Type} (l : Launch) (D : va_G) (tys : List (ClassId × FieldType)) (y : MethodName) (cc : ByteArray) (maxL : Nat) (ret : Option FieldType) (rm : Room) (av : List Value) (w0 : va_W) (post : S → Prop) (w1 : S → va_W) (mc ms : Nat) : Prop :=
  ∀ sz : Nat, Met l y (.code y cc maxL ret :: lw_gd) rm (zc_P D tys av w0 sz) (va_Qv post (zc_B D (va_A w0 sz) w1) (va_A w0 sz)) mc ms (va_A w0 sz)
/-- the end of a method -/
def zv_R {S : Type} (p : Program) (l : Launch) (e : Env) (R : Room) (s : State) (m : MethodId) (args : Array Value) (below : List Frame) (meth : Method) (c : Code) (Q : State → Prop) (D : va_G) (cc : ByteArray) (ret : Option FieldType) (A : Nat → Prop) (post : S → Prop) (w1 : S → va_W) (mc ms : Nat) : Prop :=
  ∀ (u : S) (H : Heap) (locs : List Loc) (cells slots pc : Nat) (ls : Array Slot), post u → va_P D vwCl (w1 u) H → va_D A (w1 u) → va_S A s.heap H locs → cells ≤ mc → slots ≤ ms → decode cc pc = .ok (.return_, 1) → W p l e R s m args below meth c H locs cells slots Q (F0 m pc ls [])
theorem zv_of {S : Type} {l : Launch} {D : va_G} {tys : List (ClassId × FieldType)} {y : MethodName} {cc : ByteArray} {maxL : Nat} {ret : Option FieldType} {rm : Room} {av : List Value} {w0 : va_W} {post : S → Prop} {w1 : S → va_W} {mc ms : Nat} (hy : plainName y.cls = true) (hle : (lg_sl av).length ≤ maxL) (hret : ret = none)
    (body : ∀ (p : Program) (e : Env) (s : State) (m : MethodId) (args : Array Value) (below : List Frame) (meth : Method) (c : Code) (A : Nat → Prop) (Q : State → Prop) (ls : Array Slot), zX D tys p s m args meth c cc ret maxL y.cls A → meth.name = y.name → va_P D vwCl w0 s.heap → va_D A w0 → va_S A s.heap s.heap [] → lv_has ls maxL (lv_args 0 av) → zv_R p l e rm s m args below meth c Q D cc ret A post w1 mc ms →
      W p l e rm s m args below meth c s.heap [] 0 0 Q (F0 m 0 ls [])) : zc_v l D tys y cc maxL ret rm av w0 post w1 mc ms := by
  intro sz
  refine Met.ofW (cc := cc) (maxL := maxL) (ret := ret) hy rfl ?_
  intro p e s m args below meth c s₁ B hml hv
  obtain ⟨rfl, hsz, hP, hK, hD0, hN⟩ := hv
  have hts := atoms_spec (ws := Cond.code y cc maxL ret :: lw_gd) B.pre
  have hown : s.vm.findClass y.cls = some m.cls := findClass_of_methodNamed B.named
  have hlocks := B.notSynchronized
  have hr := B.returns
  rw [hret] at hr
  subst hsz
  have hD := hD0.self (sz := s.heap.size)
  generalize hAe : va_A w0 s.heap.size = A at hD ⊢
  have hA : ∀ q : Nat, s.heap.size ≤ q → A q := fun q h => by rw [← hAe]; exact Or.inr h
  have hl := lv_entry av (n := maxL) hle
  rw [lg_entry_eq]
  generalize (lg_sl av ++ List.replicate (maxL - (lg_sl av).length) Slot.unset).toArray = ls at hl ⊢
  refine body p e s m av.toArray below meth c A _ ls ⟨B.exec, B.bytes, B.returns, hml, B.notSynchronized, hown, fun w h => hts w (List.mem_cons_of_mem _ h), hK, hA, hN⟩ (name_of_methodNamed B.named B.method).1 hP hD va_S.rf hl ?_
  intro u H locs cells slots pc ls2 hpost hP hD hS hc hs hdg
  exact zv_ret B.exec B.bytes hr hlocks u hpost hP hD hS hc hs hdg
/-- the words of a call of y by own's pool entry idx -/
def zk_ok (own : String) (idx : Nat) (y : MethodName) (cc : ByteArray) (maxL : Nat) (ret : Option FieldType) (n : Nat) : Prop :=
  Cond.code y cc maxL ret ∈ lw_gd ∧ Cond.initialized y.cls ∈ lw_gd ∧ Cond.methodLink own idx y ∈ lw_gd ∧ (y.cls ≠ "java/lang/invoke/MethodHandle" ∧ y.cls ≠ "java/lang/invoke/VarHandle" ∧ (parseMethodDescriptor y.desc).map (fun d => d.parameters.length) = some n)
theorem zk_good {y : MethodName} {cc : ByteArray} {maxL : Nat} {ret : Option FieldType} (h : Cond.code y cc maxL ret ∈ lw_gd) : GoodIn lw_gd (.code y cc maxL ret :: lw_gd) := by
  intro w hw
  rcases List.mem_cons.mp hw with rfl | h2
  · exact ⟨h, lw_gd_ok _ h⟩
  · exact ⟨h2, lw_gd_ok _ h2⟩
theorem zk_B {R : Room} {s : State} {args : Array Value} {own : String} {idx : Nat} {y : MethodName} {cc : ByteArray} {maxL : Nat} {ret : Option FieldType} {n : Nat} {rm : Room} {mc ms : Nat} (h : zk_ok own idx y cc maxL ret n) (ht : ∀ w ∈ lw_gd, w.before args s = true) (hrc : rm.cells = mc) (hrs : rm.slots = ms) (hR : rm.frames + 1 ≤ R.frames ∧ 8 + (maxL + 11) + rm.locals ≤ R.locals) :
    CallB R s args own idx y cc maxL ret (.code y cc maxL ret :: lw_gd) rm mc ms n :=
  callB_of n ht (zk_good h.1) rfl hrc hrs (ht _ h.2.1) (ht _ h.2.2.1) h.2.2.2 hR
section ZKsi
variable {p : Program} {l : Launch} {e : Env} {R : Room} {s : State} {m : MethodId} {args : Array Value} {below : List Frame} {meth : Method} {c : Code} {H : Heap} {locs : List Loc} {cells slots : Nat} {Q : State → Prop}
theorem zk_si {S : Type} {D : va_G} {tys : List (ClassId × FieldType)} {A : Nat → Prop} {cc0 cc : ByteArray} {own : String} {idx nL maxL n mc ms pc : Nat} {y : MethodName} {ret ret0 : Option FieldType} {rm : Room} {av rest st : List Value} {w0 ws wr : va_W} {post : Int32 → S → Prop} {w1 : S → va_W} {ls : Array Slot}
    (C0 : zX D tys p s m args meth c cc0 ret0 nL own A) (hP : va_P D vwCl ws H) (hD : va_D A ws) (hS : va_S A s.heap H locs)
    (hM : zc_i l D tys y cc maxL ret rm (av) w0 post w1 mc ms) (hk : zk_ok own idx y cc maxL ret n) (hst : Cond.static y ∈ lw_gd)
    (isC isR : List Nat) (hC : isC.map (fun i => ws[i]?) = w0.map some) (hRr : isR.map (fun i => ws[i]?) = wr.map some) (hnd : va_nd isC = true ∧ va_nd isR = true ∧ ∀ i ∈ isR, i ∉ isC)
    (hsz : ls.size = nL) (hstk : st = av.reverse ++ rest) (hlen : av.length = n) (hroom : (rest.map fun v => v.category).sum ≤ 8) (hR : rm.frames + 1 ≤ R.frames ∧ 8 + (maxL + 11) + rm.locals ≤ R.locals) (hrc : rm.cells = mc) (hrs : rm.slots = ms) (hf : cells + mc ≤ R.cells ∧ slots + ms ≤ R.slots) (hdg : decode cc0 pc = .ok (.invokestatic idx, 3))
    (kk : ∀ (r : Int32) (u : S) (H1 : Heap) (locs1 : List Loc), post r u → va_P D vwCl (wr ++ w1 u) H1 → va_D A (wr ++ w1 u) → va_S A s.heap H1 locs1 → W p l e R s m args below meth c H1 locs1 (cells + mc) (slots + ms) Q (F0 m (pc + 3) ls (.int r :: rest))) : W p l e R s m args below meth c H locs cells slots Q (F0 m pc ls st) := by
  obtain ⟨hx, hb, hr, hml, hlocks, hown, hts, hK, hA, hN⟩ := C0
  have hPc : va_P D vwCl w0 H := hP.sub isC (zz_fm _ isC w0 hC)
  have hDc : va_D A w0 := hD.sub isC hnd.1 hC
  have hFc := va_free (wc := w0) hD hS hA isC hC
  have hroom : 2 * (F0 m pc ls st).monitorRoom + (rest.map fun v => v.category).sum ≤ 8 := lv_room hroom
  refine va_calli (va_runS (As := av) (rest := rest) ⟨hx, hb, hml, hown, hts⟩ (hM H.size) ⟨zk_B hk hts hrc hrs hR, hts _ hst⟩ ⟨zc_blind D tys av w0 H.size, fun U hU hW => ⟨rfl, by rw [hU], by rw [hU]; exact hPc, va_K.moved hW.alike hK, hDc.weaken (fun _ _ _ _ => trivial), zN_warm hW hN⟩⟩ rfl hlen hsz hstk hroom hdg hf) hS (fun q _ h => hFc q h) hFc (fun r u t H1 locs1 ht hvm hw hB hz1 hk1 hS1 => ?_)
  obtain ⟨hP1, hD1⟩ := hB
  rw [ht] at hP1
  obtain ⟨hP2, hD2⟩ := va_join hP hD isC isR hC hRr hnd.2.1 hnd.2.2 hk1 hFc hP1 hD1
  exact kk r u H1 locs1 hw hP2 hD2 hS1
end ZKsi
section ZKvi
variable {p : Program} {l : Launch} {e : Env} {R : Room} {s : State} {m : MethodId} {args : Array Value} {below : List Frame} {meth : Method} {c : Code} {H : Heap} {locs : List Loc} {cells slots : Nat} {Q : State → Prop}
theorem zk_vi {S : Type} {D : va_G} {tys : List (ClassId × FieldType)} {A : Nat → Prop} {cc0 cc : ByteArray} {own : String} {idx nL maxL n mc ms pc : Nat} {y : MethodName} {ret ret0 : Option FieldType} {rm : Room} {b0 : Nat} {av rest st : List Value} {w0 ws wr : va_W} {post : Int32 → S → Prop} {w1 : S → va_W} {ls : Array Slot}
    (C0 : zX D tys p s m args meth c cc0 ret0 nL own A) (hP : va_P D vwCl ws H) (hD : va_D A ws) (hS : va_S A s.heap H locs)
    (hM : zc_i l D tys y cc maxL ret rm (.ref b0 :: av) w0 post w1 mc ms) (hk : zk_ok own idx y cc maxL ret n) (hin : Cond.instanceMethod y ∈ lw_gd) (hsel : Cond.selects y.cls y y ∈ lw_gd) (ci : Nat) {fs : List Value} {T : u_T} {N : Nat} (hcl : vwCl[ci]? = some (y.cls, T, N)) (q0 : Nat) (hrc0 : w0[q0]? = some (b0, .inr (ci, fs)))
    (isC isR : List Nat) (hC : isC.map (fun i => ws[i]?) = w0.map some) (hRr : isR.map (fun i => ws[i]?) = wr.map some) (hnd : va_nd isC = true ∧ va_nd isR = true ∧ ∀ i ∈ isR, i ∉ isC)
    (hsz : ls.size = nL) (hstk : st = av.reverse ++ .ref b0 :: rest) (hlen : av.length = n) (hroom : (rest.map fun v => v.category).sum ≤ 8) (hR : rm.frames + 1 ≤ R.frames ∧ 8 + (maxL + 11) + rm.locals ≤ R.locals) (hrc : rm.cells = mc) (hrs : rm.slots = ms) (hf : cells + mc ≤ R.cells ∧ slots + ms ≤ R.slots) (hdg : decode cc0 pc = .ok (.invokevirtual idx, 3))
    (kk : ∀ (r : Int32) (u : S) (H1 : Heap) (locs1 : List Loc), post r u → va_P D vwCl (wr ++ w1 u) H1 → va_D A (wr ++ w1 u) → va_S A s.heap H1 locs1 → W p l e R s m args below meth c H1 locs1 (cells + mc) (slots + ms) Q (F0 m (pc + 3) ls (.int r :: rest))) : W p l e R s m args below meth c H locs cells slots Q (F0 m pc ls st) := by
  obtain ⟨hx, hb, hr, hml, hlocks, hown, hts, hK, hA, hN⟩ := C0
  have hPc : va_P D vwCl w0 H := hP.sub isC (zz_fm _ isC w0 hC)
  have hDc : va_D A w0 := hD.sub isC hnd.1 hC
  have hFc := va_free (wc := w0) hD hS hA isC hC
  have hroom : 2 * (F0 m pc ls st).monitorRoom + (rest.map fun v => v.category).sum ≤ 8 := lv_room hroom
  refine va_calli (va_runV (b := b0) (C := y.cls) (As := av) (rest := rest) ⟨hx, hb, hml, hown, hts⟩ (hM H.size) ⟨zk_B hk hts hrc hrs hR, hts _ hin, hts _ hsel⟩ ⟨zc_blind D tys (.ref b0 :: av) w0 H.size, va_recv hK hPc hcl hrc0, fun U hU hW => ⟨rfl, by rw [hU], by rw [hU]; exact hPc, va_K.moved hW.alike hK, hDc.weaken (fun _ _ _ _ => trivial), zN_warm hW hN⟩⟩ rfl hlen hsz hstk hroom hdg hf) hS (fun q _ h => hFc q h) hFc (fun r u t H1 locs1 ht hvm hw hB hz1 hk1 hS1 => ?_)
  obtain ⟨hP1, hD1⟩ := hB
  rw [ht] at hP1
  obtain ⟨hP2, hD2⟩ := va_join hP hD isC isR hC hRr hnd.2.1 hnd.2.2 hk1 hFc hP1 hD1
  exact kk r u H1 locs1 hw hP2 hD2 hS1
end ZKvi
section ZKsl
variable {p : Program} {l : Launch} {e : Env} {R : Room} {s : State} {m : MethodId} {args : Array Value} {below : List Frame} {meth : Method} {c : Code} {H : Heap} {locs : List Loc} {cells slots : Nat} {Q : State → Prop}
theorem zk_sl {S : Type} {D : va_G} {tys : List (ClassId × FieldType)} {A : Nat → Prop} {cc0 cc : ByteArray} {own : String} {idx nL maxL n mc ms pc : Nat} {y : MethodName} {ret ret0 : Option FieldType} {rm : Room} {av rest st : List Value} {w0 ws wr : va_W} {post : Int64 → S → Prop} {w1 : S → va_W} {ls : Array Slot}
    (C0 : zX D tys p s m args meth c cc0 ret0 nL own A) (hP : va_P D vwCl ws H) (hD : va_D A ws) (hS : va_S A s.heap H locs)
    (hM : zc_l l D tys y cc maxL ret rm (av) w0 post w1 mc ms) (hk : zk_ok own idx y cc maxL ret n) (hst : Cond.static y ∈ lw_gd)
    (isC isR : List Nat) (hC : isC.map (fun i => ws[i]?) = w0.map some) (hRr : isR.map (fun i => ws[i]?) = wr.map some) (hnd : va_nd isC = true ∧ va_nd isR = true ∧ ∀ i ∈ isR, i ∉ isC)
    (hsz : ls.size = nL) (hstk : st = av.reverse ++ rest) (hlen : av.length = n) (hroom : (rest.map fun v => v.category).sum ≤ 8) (hR : rm.frames + 1 ≤ R.frames ∧ 8 + (maxL + 11) + rm.locals ≤ R.locals) (hrc : rm.cells = mc) (hrs : rm.slots = ms) (hf : cells + mc ≤ R.cells ∧ slots + ms ≤ R.slots) (hdg : decode cc0 pc = .ok (.invokestatic idx, 3))
    (kk : ∀ (r : Int64) (u : S) (H1 : Heap) (locs1 : List Loc), post r u → va_P D vwCl (wr ++ w1 u) H1 → va_D A (wr ++ w1 u) → va_S A s.heap H1 locs1 → W p l e R s m args below meth c H1 locs1 (cells + mc) (slots + ms) Q (F0 m (pc + 3) ls (.long r :: rest))) : W p l e R s m args below meth c H locs cells slots Q (F0 m pc ls st) := by
  obtain ⟨hx, hb, hr, hml, hlocks, hown, hts, hK, hA, hN⟩ := C0
  have hPc : va_P D vwCl w0 H := hP.sub isC (zz_fm _ isC w0 hC)
  have hDc : va_D A w0 := hD.sub isC hnd.1 hC
  have hFc := va_free (wc := w0) hD hS hA isC hC
  have hroom : 2 * (F0 m pc ls st).monitorRoom + (rest.map fun v => v.category).sum ≤ 8 := lv_room hroom
  refine va_calll (va_runS (As := av) (rest := rest) ⟨hx, hb, hml, hown, hts⟩ (hM H.size) ⟨zk_B hk hts hrc hrs hR, hts _ hst⟩ ⟨zc_blind D tys av w0 H.size, fun U hU hW => ⟨rfl, by rw [hU], by rw [hU]; exact hPc, va_K.moved hW.alike hK, hDc.weaken (fun _ _ _ _ => trivial), zN_warm hW hN⟩⟩ rfl hlen hsz hstk hroom hdg hf) hS (fun q _ h => hFc q h) hFc (fun r u t H1 locs1 ht hvm hw hB hz1 hk1 hS1 => ?_)
  obtain ⟨hP1, hD1⟩ := hB
  rw [ht] at hP1
  obtain ⟨hP2, hD2⟩ := va_join hP hD isC isR hC hRr hnd.2.1 hnd.2.2 hk1 hFc hP1 hD1
  exact kk r u H1 locs1 hw hP2 hD2 hS1
end ZKsl
section ZKvl
variable {p : Program} {l : Launch} {e : Env} {R : Room} {s : State} {m : MethodId} {args : Array Value} {below : List Frame} {meth : Method} {c : Code} {H : Heap} {locs : List Loc} {cells slots : Nat} {Q : State → Prop}
theorem zk_vl {S : Type} {D : va_G} {tys : List (ClassId × FieldType)} {A : Nat → Prop} {cc0 cc : ByteArray} {own : String} {idx nL maxL n mc ms pc : Nat} {y : MethodName} {ret ret0 : Option FieldType} {rm : Room} {b0 : Nat} {av rest st : List Value} {w0 ws wr : va_W} {post : Int64 → S → Prop} {w1 : S → va_W} {ls : Array Slot}
    (C0 : zX D tys p s m args meth c cc0 ret0 nL own A) (hP : va_P D vwCl ws H) (hD : va_D A ws) (hS : va_S A s.heap H locs)
    (hM : zc_l l D tys y cc maxL ret rm (.ref b0 :: av) w0 post w1 mc ms) (hk : zk_ok own idx y cc maxL ret n) (hin : Cond.instanceMethod y ∈ lw_gd) (hsel : Cond.selects y.cls y y ∈ lw_gd) (ci : Nat) {fs : List Value} {T : u_T} {N : Nat} (hcl : vwCl[ci]? = some (y.cls, T, N)) (q0 : Nat) (hrc0 : w0[q0]? = some (b0, .inr (ci, fs)))
    (isC isR : List Nat) (hC : isC.map (fun i => ws[i]?) = w0.map some) (hRr : isR.map (fun i => ws[i]?) = wr.map some) (hnd : va_nd isC = true ∧ va_nd isR = true ∧ ∀ i ∈ isR, i ∉ isC)
    (hsz : ls.size = nL) (hstk : st = av.reverse ++ .ref b0 :: rest) (hlen : av.length = n) (hroom : (rest.map fun v => v.category).sum ≤ 8) (hR : rm.frames + 1 ≤ R.frames ∧ 8 + (maxL + 11) + rm.locals ≤ R.locals) (hrc : rm.cells = mc) (hrs : rm.slots = ms) (hf : cells + mc ≤ R.cells ∧ slots + ms ≤ R.slots) (hdg : decode cc0 pc = .ok (.invokevirtual idx, 3))
    (kk : ∀ (r : Int64) (u : S) (H1 : Heap) (locs1 : List Loc), post r u → va_P D vwCl (wr ++ w1 u) H1 → va_D A (wr ++ w1 u) → va_S A s.heap H1 locs1 → W p l e R s m args below meth c H1 locs1 (cells + mc) (slots + ms) Q (F0 m (pc + 3) ls (.long r :: rest))) : W p l e R s m args below meth c H locs cells slots Q (F0 m pc ls st) := by
  obtain ⟨hx, hb, hr, hml, hlocks, hown, hts, hK, hA, hN⟩ := C0
  have hPc : va_P D vwCl w0 H := hP.sub isC (zz_fm _ isC w0 hC)
  have hDc : va_D A w0 := hD.sub isC hnd.1 hC
  have hFc := va_free (wc := w0) hD hS hA isC hC
  have hroom : 2 * (F0 m pc ls st).monitorRoom + (rest.map fun v => v.category).sum ≤ 8 := lv_room hroom
  refine va_calll (va_runV (b := b0) (C := y.cls) (As := av) (rest := rest) ⟨hx, hb, hml, hown, hts⟩ (hM H.size) ⟨zk_B hk hts hrc hrs hR, hts _ hin, hts _ hsel⟩ ⟨zc_blind D tys (.ref b0 :: av) w0 H.size, va_recv hK hPc hcl hrc0, fun U hU hW => ⟨rfl, by rw [hU], by rw [hU]; exact hPc, va_K.moved hW.alike hK, hDc.weaken (fun _ _ _ _ => trivial), zN_warm hW hN⟩⟩ rfl hlen hsz hstk hroom hdg hf) hS (fun q _ h => hFc q h) hFc (fun r u t H1 locs1 ht hvm hw hB hz1 hk1 hS1 => ?_)
  obtain ⟨hP1, hD1⟩ := hB
  rw [ht] at hP1
  obtain ⟨hP2, hD2⟩ := va_join hP hD isC isR hC hRr hnd.2.1 hnd.2.2 hk1 hFc hP1 hD1
  exact kk r u H1 locs1 hw hP2 hD2 hS1
end ZKvl
section ZKsv
variable {p : Program} {l : Launch} {e : Env} {R : Room} {s : State} {m : MethodId} {args : Array Value} {below : List Frame} {meth : Method} {c : Code} {H : Heap} {locs : List Loc} {cells slots : Nat} {Q : State → Prop}
theorem zk_sv {S : Type} {D : va_G} {tys : List (ClassId × FieldType)} {A : Nat → Prop} {cc0 cc : ByteArray} {own : String} {idx nL maxL n mc ms pc : Nat} {y : MethodName} {ret ret0 : Option FieldType} {rm : Room} {av rest st : List Value} {w0 ws wr : va_W} {post : S → Prop} {w1 : S → va_W} {ls : Array Slot}
    (C0 : zX D tys p s m args meth c cc0 ret0 nL own A) (hP : va_P D vwCl ws H) (hD : va_D A ws) (hS : va_S A s.heap H locs)
    (hM : zc_v l D tys y cc maxL ret rm (av) w0 post w1 mc ms) (hk : zk_ok own idx y cc maxL ret n) (hst : Cond.static y ∈ lw_gd)
    (isC isR : List Nat) (hC : isC.map (fun i => ws[i]?) = w0.map some) (hRr : isR.map (fun i => ws[i]?) = wr.map some) (hnd : va_nd isC = true ∧ va_nd isR = true ∧ ∀ i ∈ isR, i ∉ isC)
    (hsz : ls.size = nL) (hstk : st = av.reverse ++ rest) (hlen : av.length = n) (hroom : (rest.map fun v => v.category).sum ≤ 8) (hR : rm.frames + 1 ≤ R.frames ∧ 8 + (maxL + 11) + rm.locals ≤ R.locals) (hrc : rm.cells = mc) (hrs : rm.slots = ms) (hf : cells + mc ≤ R.cells ∧ slots + ms ≤ R.slots) (hdg : decode cc0 pc = .ok (.invokestatic idx, 3))
    (kk : ∀ (u : S) (H1 : Heap) (locs1 : List Loc), post u → va_P D vwCl (wr ++ w1 u) H1 → va_D A (wr ++ w1 u) → va_S A s.heap H1 locs1 → W p l e R s m args below meth c H1 locs1 (cells + mc) (slots + ms) Q (F0 m (pc + 3) ls (rest))) : W p l e R s m args below meth c H locs cells slots Q (F0 m pc ls st) := by
  obtain ⟨hx, hb, hr, hml, hlocks, hown, hts, hK, hA, hN⟩ := C0
  have hPc : va_P D vwCl w0 H := hP.sub isC (zz_fm _ isC w0 hC)
  have hDc : va_D A w0 := hD.sub isC hnd.1 hC
  have hFc := va_free (wc := w0) hD hS hA isC hC
  have hroom : 2 * (F0 m pc ls st).monitorRoom + (rest.map fun v => v.category).sum ≤ 8 := lv_room hroom
  refine va_callv (va_runS (As := av) (rest := rest) ⟨hx, hb, hml, hown, hts⟩ (hM H.size) ⟨zk_B hk hts hrc hrs hR, hts _ hst⟩ ⟨zc_blind D tys av w0 H.size, fun U hU hW => ⟨rfl, by rw [hU], by rw [hU]; exact hPc, va_K.moved hW.alike hK, hDc.weaken (fun _ _ _ _ => trivial), zN_warm hW hN⟩⟩ rfl hlen hsz hstk hroom hdg hf) hS (fun q _ h => hFc q h) hFc (fun u t H1 locs1 ht hvm hw hB hz1 hk1 hS1 => ?_)
  obtain ⟨hP1, hD1⟩ := hB
  rw [ht] at hP1
  obtain ⟨hP2, hD2⟩ := va_join hP hD isC isR hC hRr hnd.2.1 hnd.2.2 hk1 hFc hP1 hD1
  exact kk u H1 locs1 hw hP2 hD2 hS1
end ZKsv
section ZKvv
variable {p : Program} {l : Launch} {e : Env} {R : Room} {s : State} {m : MethodId} {args : Array Value} {below : List Frame} {meth : Method} {c : Code} {H : Heap} {locs : List Loc} {cells slots : Nat} {Q : State → Prop}
theorem zk_vv {S : Type} {D : va_G} {tys : List (ClassId × FieldType)} {A : Nat → Prop} {cc0 cc : ByteArray} {own : String} {idx nL maxL n mc ms pc : Nat} {y : MethodName} {ret ret0 : Option FieldType} {rm : Room} {b0 : Nat} {av rest st : List Value} {w0 ws wr : va_W} {post : S → Prop} {w1 : S → va_W} {ls : Array Slot}
    (C0 : zX D tys p s m args meth c cc0 ret0 nL own A) (hP : va_P D vwCl ws H) (hD : va_D A ws) (hS : va_S A s.heap H locs)
    (hM : zc_v l D tys y cc maxL ret rm (.ref b0 :: av) w0 post w1 mc ms) (hk : zk_ok own idx y cc maxL ret n) (hin : Cond.instanceMethod y ∈ lw_gd) (hsel : Cond.selects y.cls y y ∈ lw_gd) (ci : Nat) {fs : List Value} {T : u_T} {N : Nat} (hcl : vwCl[ci]? = some (y.cls, T, N)) (q0 : Nat) (hrc0 : w0[q0]? = some (b0, .inr (ci, fs)))
    (isC isR : List Nat) (hC : isC.map (fun i => ws[i]?) = w0.map some) (hRr : isR.map (fun i => ws[i]?) = wr.map some) (hnd : va_nd isC = true ∧ va_nd isR = true ∧ ∀ i ∈ isR, i ∉ isC)
    (hsz : ls.size = nL) (hstk : st = av.reverse ++ .ref b0 :: rest) (hlen : av.length = n) (hroom : (rest.map fun v => v.category).sum ≤ 8) (hR : rm.frames + 1 ≤ R.frames ∧ 8 + (maxL + 11) + rm.locals ≤ R.locals) (hrc : rm.cells = mc) (hrs : rm.slots = ms) (hf : cells + mc ≤ R.cells ∧ slots + ms ≤ R.slots) (hdg : decode cc0 pc = .ok (.invokevirtual idx, 3))
    (kk : ∀ (u : S) (H1 : Heap) (locs1 : List Loc), post u → va_P D vwCl (wr ++ w1 u) H1 → va_D A (wr ++ w1 u) → va_S A s.heap H1 locs1 → W p l e R s m args below meth c H1 locs1 (cells + mc) (slots + ms) Q (F0 m (pc + 3) ls (rest))) : W p l e R s m args below meth c H locs cells slots Q (F0 m pc ls st) := by
  obtain ⟨hx, hb, hr, hml, hlocks, hown, hts, hK, hA, hN⟩ := C0
  have hPc : va_P D vwCl w0 H := hP.sub isC (zz_fm _ isC w0 hC)
  have hDc : va_D A w0 := hD.sub isC hnd.1 hC
  have hFc := va_free (wc := w0) hD hS hA isC hC
  have hroom : 2 * (F0 m pc ls st).monitorRoom + (rest.map fun v => v.category).sum ≤ 8 := lv_room hroom
  refine va_callv (va_runV (b := b0) (C := y.cls) (As := av) (rest := rest) ⟨hx, hb, hml, hown, hts⟩ (hM H.size) ⟨zk_B hk hts hrc hrs hR, hts _ hin, hts _ hsel⟩ ⟨zc_blind D tys (.ref b0 :: av) w0 H.size, va_recv hK hPc hcl hrc0, fun U hU hW => ⟨rfl, by rw [hU], by rw [hU]; exact hPc, va_K.moved hW.alike hK, hDc.weaken (fun _ _ _ _ => trivial), zN_warm hW hN⟩⟩ rfl hlen hsz hstk hroom hdg hf) hS (fun q _ h => hFc q h) hFc (fun u t H1 locs1 ht hvm hw hB hz1 hk1 hS1 => ?_)
  obtain ⟨hP1, hD1⟩ := hB
  rw [ht] at hP1
  obtain ⟨hP2, hD2⟩ := va_join hP hD isC isR hC hRr hnd.2.1 hnd.2.2 hk1 hFc hP1 hD1
  exact kk u H1 locs1 hw hP2 hD2 hS1
end ZKvv
section ZKxv
variable {p : Program} {l : Launch} {e : Env} {R : Room} {s : State} {m : MethodId} {args : Array Value} {below : List Frame} {meth : Method} {c : Code} {H : Heap} {locs : List Loc} {cells slots : Nat} {Q : State → Prop}
theorem zk_xv {S : Type} {D : va_G} {tys : List (ClassId × FieldType)} {A : Nat → Prop} {cc0 cc : ByteArray} {own : String} {idx nL maxL n mc ms pc : Nat} {y : MethodName} {ret ret0 : Option FieldType} {rm : Room} {b0 : Nat} {av rest st : List Value} {w0 ws wr : va_W} {post : S → Prop} {w1 : S → va_W} {ls : Array Slot}
    (C0 : zX D tys p s m args meth c cc0 ret0 nL own A) (hP : va_P D vwCl ws H) (hD : va_D A ws) (hS : va_S A s.heap H locs)
    (hM : zc_v l D tys y cc maxL none rm (.ref b0 :: av) w0 post w1 mc ms) (hk : zk_ok own idx y cc maxL none n) (hin : Cond.instanceMethod y ∈ lw_gd) (hnm : y.name = "<init>")
    (isC isR : List Nat) (hC : isC.map (fun i => ws[i]?) = w0.map some) (hRr : isR.map (fun i => ws[i]?) = wr.map some) (hnd : va_nd isC = true ∧ va_nd isR = true ∧ ∀ i ∈ isR, i ∉ isC)
    (hsz : ls.size = nL) (hstk : st = av.reverse ++ .ref b0 :: rest) (hlen : av.length = n) (hroom : (rest.map fun v => v.category).sum ≤ 8) (hR : rm.frames + 1 ≤ R.frames ∧ 8 + (maxL + 11) + rm.locals ≤ R.locals) (hrc : rm.cells = mc) (hrs : rm.slots = ms) (hf : cells + mc ≤ R.cells ∧ slots + ms ≤ R.slots) (hdg : decode cc0 pc = .ok (.invokespecial idx, 3))
    (kk : ∀ (u : S) (H1 : Heap) (locs1 : List Loc), post u → va_P D vwCl (wr ++ w1 u) H1 → va_D A (wr ++ w1 u) → va_S A s.heap H1 locs1 → W p l e R s m args below meth c H1 locs1 (cells + mc) (slots + ms) Q (F0 m (pc + 3) ls (rest))) : W p l e R s m args below meth c H locs cells slots Q (F0 m pc ls st) := by
  obtain ⟨hx, hb, hr, hml, hlocks, hown, hts, hK, hA, hN⟩ := C0
  have hPc : va_P D vwCl w0 H := hP.sub isC (zz_fm _ isC w0 hC)
  have hDc : va_D A w0 := hD.sub isC hnd.1 hC
  have hFc := va_free (wc := w0) hD hS hA isC hC
  have hroom : 2 * (F0 m pc ls st).monitorRoom + (rest.map fun v => v.category).sum ≤ 8 := lv_room hroom
  refine va_callv (va_runI (b := b0) (As := av) (rest := rest) ⟨hx, hb, hml, hown, hts⟩ (hM H.size) ⟨zk_B hk hts hrc hrs hR, hnm, hts _ hin⟩ ⟨zc_blind D tys (.ref b0 :: av) w0 H.size, fun U hU hW => ⟨rfl, by rw [hU], by rw [hU]; exact hPc, va_K.moved hW.alike hK, hDc.weaken (fun _ _ _ _ => trivial), zN_warm hW hN⟩⟩ rfl hlen hsz hstk hroom hdg hf) hS (fun q _ h => hFc q h) hFc (fun u t H1 locs1 ht hvm hw hB hz1 hk1 hS1 => ?_)
  obtain ⟨hP1, hD1⟩ := hB
  rw [ht] at hP1
  obtain ⟨hP2, hD2⟩ := va_join hP hD isC isR hC hRr hnd.2.1 hnd.2.2 hk1 hFc hP1 hD1
  exact kk u H1 locs1 hw hP2 hD2 hS1
end ZKxv
section ZKPi
variable {p : Program} {l : Launch} {e : Env} {R : Room} {s : State} {m : MethodId} {args : Array Value} {below : List Frame} {meth : Method} {c : Code} {H : Heap} {locs : List Loc} {cells slots : Nat} {Q : State → Prop}
/-- a static method that touches no cell -/
theorem zk_pi {D : va_G} {tys : List (ClassId × FieldType)} {A : Nat → Prop} {cc0 cc : ByteArray} {own : String} {idx nL maxL n pc : Nat} {y : MethodName} {ret ret0 : Option FieldType} {rm : Room} {av rest st : List Value} {ws : va_W} {post : Int32 → Unit → Prop} {ls : Array Slot}
    (C0 : zX D tys p s m args meth c cc0 ret0 nL own A) (hP : va_P D vwCl ws H) (hD : va_D A ws) (hS : va_S A s.heap H locs)
    (hM : zc_i l D tys y cc maxL ret rm av [] post (fun _ : Unit => []) 0 0) (hk : zk_ok own idx y cc maxL ret n ∧ Cond.static y ∈ lw_gd)
    (hsz : ls.size = nL) (hstk : st = av.reverse ++ rest) (hlen : av.length = n) (hroom : (rest.map fun v => v.category).sum ≤ 8) (hR : rm.frames + 1 ≤ R.frames ∧ 8 + (maxL + 11) + rm.locals ≤ R.locals) (hrc : rm.cells = 0) (hrs : rm.slots = 0) (hf : cells ≤ R.cells ∧ slots ≤ R.slots) (hdg : decode cc0 pc = .ok (.invokestatic idx, 3))
    (kk : ∀ (r : Int32) (H1 : Heap) (locs1 : List Loc), post r () → va_P D vwCl ws H1 → va_S A s.heap H1 locs1 → W p l e R s m args below meth c H1 locs1 cells slots Q (F0 m (pc + 3) ls (.int r :: rest))) : W p l e R s m args below meth c H locs cells slots Q (F0 m pc ls st) := by
  refine zk_si (wr := ws) C0 hP hD hS hM hk.1 hk.2 [] (List.range ws.length) rfl (zz_rg ws) ⟨rfl, zz_nd_range _, fun _ _ h => by cases h⟩ hsz hstk hlen hroom hR hrc hrs hf hdg (fun r u H1 locs1 hp hP1 hD1 hS1 => ?_)
  rw [List.append_nil] at hP1
  exact kk r H1 locs1 hp hP1 hS1
end ZKPi
section ZKPl
variable {p : Program} {l : Launch} {e : Env} {R : Room} {s : State} {m : MethodId} {args : Array Value} {below : List Frame} {meth : Method} {c : Code} {H : Heap} {locs : List Loc} {cells slots : Nat} {Q : State → Prop}
/-- a static method that touches no cell -/
theorem zk_pl {D : va_G} {tys : List (ClassId × FieldType)} {A : Nat → Prop} {cc0 cc : ByteArray} {own : String} {idx nL maxL n pc : Nat} {y : MethodName} {ret ret0 : Option FieldType} {rm : Room} {av rest st : List Value} {ws : va_W} {post : Int64 → Unit → Prop} {ls : Array Slot}
    (C0 : zX D tys p s m args meth c cc0 ret0 nL own A) (hP : va_P D vwCl ws H) (hD : va_D A ws) (hS : va_S A s.heap H locs)
    (hM : zc_l l D tys y cc maxL ret rm av [] post (fun _ : Unit => []) 0 0) (hk : zk_ok own idx y cc maxL ret n ∧ Cond.static y ∈ lw_gd)
    (hsz : ls.size = nL) (hstk : st = av.reverse ++ rest) (hlen : av.length = n) (hroom : (rest.map fun v => v.category).sum ≤ 8) (hR : rm.frames + 1 ≤ R.frames ∧ 8 + (maxL + 11) + rm.locals ≤ R.locals) (hrc : rm.cells = 0) (hrs : rm.slots = 0) (hf : cells ≤ R.cells ∧ slots ≤ R.slots) (hdg : decode cc0 pc = .ok (.invokestatic idx, 3))
    (kk : ∀ (r : Int64) (H1 : Heap) (locs1 : List Loc), post r () → va_P D vwCl ws H1 → va_S A s.heap H1 locs1 → W p l e R s m args below meth c H1 locs1 cells slots Q (F0 m (pc + 3) ls (.long r :: rest))) : W p l e R s m args below meth c H locs cells slots Q (F0 m pc ls st) := by
  refine zk_sl (wr := ws) C0 hP hD hS hM hk.1 hk.2 [] (List.range ws.length) rfl (zz_rg ws) ⟨rfl, zz_nd_range _, fun _ _ h => by cases h⟩ hsz hstk hlen hroom hR hrc hrs hf hdg (fun r u H1 locs1 hp hP1 hD1 hS1 => ?_)
  rw [List.append_nil] at hP1
  exact kk r H1 locs1 hp hP1 hS1
end ZKPl
section ZKFsi
variable {p : Program} {l : Launch} {e : Env} {R : Room} {s : State} {m : MethodId} {args : Array Value} {below : List Frame} {meth : Method} {c : Code} {H : Heap} {locs : List Loc} {cells slots : Nat} {Q : State → Prop}
/-- a call whose world is all of this one's -/
theorem zf_si {S : Type} {D : va_G} {tys : List (ClassId × FieldType)} {A : Nat → Prop} {cc0 cc : ByteArray} {own : String} {idx nL maxL n pc : Nat} {y : MethodName} {ret ret0 : Option FieldType} {rm : Room} {av rest st : List Value} {ws : va_W} {post : Int32 → S → Prop} {w1 : S → va_W} {ls : Array Slot}
    (C0 : zX D tys p s m args meth c cc0 ret0 nL own A) (hP : va_P D vwCl ws H) (hD : va_D A ws) (hS : va_S A s.heap H locs)
    (hM : zc_i l D tys y cc maxL ret rm (av) ws post w1 0 0) (hk : zk_ok own idx y cc maxL ret n) (hst : Cond.static y ∈ lw_gd)
    (hsz : ls.size = nL) (hstk : st = av.reverse ++ rest) (hlen : av.length = n) (hroom : (rest.map fun v => v.category).sum ≤ 8) (hR : rm.frames + 1 ≤ R.frames ∧ 8 + (maxL + 11) + rm.locals ≤ R.locals) (hrc : rm.cells = 0) (hrs : rm.slots = 0) (hf : cells ≤ R.cells ∧ slots ≤ R.slots) (hdg : decode cc0 pc = .ok (.invokestatic idx, 3))
    (kk : ∀ (r : Int32) (u : S) (H1 : Heap) (locs1 : List Loc), post r u → va_P D vwCl (w1 u) H1 → va_D A (w1 u) → va_S A s.heap H1 locs1 → W p l e R s m args below meth c H1 locs1 cells slots Q (F0 m (pc + 3) ls (.int r :: rest))) : W p l e R s m args below meth c H locs cells slots Q (F0 m pc ls st) :=
  zk_si (wr := []) C0 hP hD hS hM hk hst (List.range ws.length) [] (zz_rg ws) rfl ⟨zz_nd_range _, rfl, fun _ h => by cases h⟩ hsz hstk hlen hroom hR hrc hrs hf hdg kk
end ZKFsi
section ZKFvi
variable {p : Program} {l : Launch} {e : Env} {R : Room} {s : State} {m : MethodId} {args : Array Value} {below : List Frame} {meth : Method} {c : Code} {H : Heap} {locs : List Loc} {cells slots : Nat} {Q : State → Prop}
/-- a call whose world is all of this one's -/
theorem zf_vi {S : Type} {D : va_G} {tys : List (ClassId × FieldType)} {A : Nat → Prop} {cc0 cc : ByteArray} {own : String} {idx nL maxL n pc : Nat} {y : MethodName} {ret ret0 : Option FieldType} {rm : Room} {b0 : Nat} {av rest st : List Value} {ws : va_W} {post : Int32 → S → Prop} {w1 : S → va_W} {ls : Array Slot}
    (C0 : zX D tys p s m args meth c cc0 ret0 nL own A) (hP : va_P D vwCl ws H) (hD : va_D A ws) (hS : va_S A s.heap H locs)
    (hM : zc_i l D tys y cc maxL ret rm (.ref b0 :: av) ws post w1 0 0) (hk : zk_ok own idx y cc maxL ret n) (hin : Cond.instanceMethod y ∈ lw_gd ∧ Cond.selects y.cls y y ∈ lw_gd) (ci : Nat) {fs : List Value} {T : u_T} {N : Nat} (hcl : vwCl[ci]? = some (y.cls, T, N)) (q0 : Nat) (hrc0 : ws[q0]? = some (b0, .inr (ci, fs)))
    (hsz : ls.size = nL) (hstk : st = av.reverse ++ .ref b0 :: rest) (hlen : av.length = n) (hroom : (rest.map fun v => v.category).sum ≤ 8) (hR : rm.frames + 1 ≤ R.frames ∧ 8 + (maxL + 11) + rm.locals ≤ R.locals) (hrc : rm.cells = 0) (hrs : rm.slots = 0) (hf : cells ≤ R.cells ∧ slots ≤ R.slots) (hdg : decode cc0 pc = .ok (.invokevirtual idx, 3))
    (kk : ∀ (r : Int32) (u : S) (H1 : Heap) (locs1 : List Loc), post r u → va_P D vwCl (w1 u) H1 → va_D A (w1 u) → va_S A s.heap H1 locs1 → W p l e R s m args below meth c H1 locs1 cells slots Q (F0 m (pc + 3) ls (.int r :: rest))) : W p l e R s m args below meth c H locs cells slots Q (F0 m pc ls st) :=
  zk_vi (wr := []) C0 hP hD hS hM hk hin.1 hin.2 ci hcl q0 hrc0 (List.range ws.length) [] (zz_rg ws) rfl ⟨zz_nd_range _, rfl, fun _ h => by cases h⟩ hsz hstk hlen hroom hR hrc hrs hf hdg kk
end ZKFvi
section ZKFsl
variable {p : Program} {l : Launch} {e : Env} {R : Room} {s : State} {m : MethodId} {args : Array Value} {below : List Frame} {meth : Method} {c : Code} {H : Heap} {locs : List Loc} {cells slots : Nat} {Q : State → Prop}
/-- a call whose world is all of this one's -/
theorem zf_sl {S : Type} {D : va_G} {tys : List (ClassId × FieldType)} {A : Nat → Prop} {cc0 cc : ByteArray} {own : String} {idx nL maxL n pc : Nat} {y : MethodName} {ret ret0 : Option FieldType} {rm : Room} {av rest st : List Value} {ws : va_W} {post : Int64 → S → Prop} {w1 : S → va_W} {ls : Array Slot}
    (C0 : zX D tys p s m args meth c cc0 ret0 nL own A) (hP : va_P D vwCl ws H) (hD : va_D A ws) (hS : va_S A s.heap H locs)
    (hM : zc_l l D tys y cc maxL ret rm (av) ws post w1 0 0) (hk : zk_ok own idx y cc maxL ret n) (hst : Cond.static y ∈ lw_gd)
    (hsz : ls.size = nL) (hstk : st = av.reverse ++ rest) (hlen : av.length = n) (hroom : (rest.map fun v => v.category).sum ≤ 8) (hR : rm.frames + 1 ≤ R.frames ∧ 8 + (maxL + 11) + rm.locals ≤ R.locals) (hrc : rm.cells = 0) (hrs : rm.slots = 0) (hf : cells ≤ R.cells ∧ slots ≤ R.slots) (hdg : decode cc0 pc = .ok (.invokestatic idx, 3))
    (kk : ∀ (r : Int64) (u : S) (H1 : Heap) (locs1 : List Loc), post r u → va_P D vwCl (w1 u) H1 → va_D A (w1 u) → va_S A s.heap H1 locs1 → W p l e R s m args below meth c H1 locs1 cells slots Q (F0 m (pc + 3) ls (.long r :: rest))) : W p l e R s m args below meth c H locs cells slots Q (F0 m pc ls st) :=
  zk_sl (wr := []) C0 hP hD hS hM hk hst (List.range ws.length) [] (zz_rg ws) rfl ⟨zz_nd_range _, rfl, fun _ h => by cases h⟩ hsz hstk hlen hroom hR hrc hrs hf hdg kk
end ZKFsl
section ZKFvl
variable {p : Program} {l : Launch} {e : Env} {R : Room} {s : State} {m : MethodId} {args : Array Value} {below : List Frame} {meth : Method} {c : Code} {H : Heap} {locs : List Loc} {cells slots : Nat} {Q : State → Prop}
/-- a call whose world is all of this one's -/
theorem zf_vl {S : Type} {D : va_G} {tys : List (ClassId × FieldType)} {A : Nat → Prop} {cc0 cc : ByteArray} {own : String} {idx nL maxL n pc : Nat} {y : MethodName} {ret ret0 : Option FieldType} {rm : Room} {b0 : Nat} {av rest st : List Value} {ws : va_W} {post : Int64 → S → Prop} {w1 : S → va_W} {ls : Array Slot}
    (C0 : zX D tys p s m args meth c cc0 ret0 nL own A) (hP : va_P D vwCl ws H) (hD : va_D A ws) (hS : va_S A s.heap H locs)
    (hM : zc_l l D tys y cc maxL ret rm (.ref b0 :: av) ws post w1 0 0) (hk : zk_ok own idx y cc maxL ret n) (hin : Cond.instanceMethod y ∈ lw_gd ∧ Cond.selects y.cls y y ∈ lw_gd) (ci : Nat) {fs : List Value} {T : u_T} {N : Nat} (hcl : vwCl[ci]? = some (y.cls, T, N)) (q0 : Nat) (hrc0 : ws[q0]? = some (b0, .inr (ci, fs)))
    (hsz : ls.size = nL) (hstk : st = av.reverse ++ .ref b0 :: rest) (hlen : av.length = n) (hroom : (rest.map fun v => v.category).sum ≤ 8) (hR : rm.frames + 1 ≤ R.frames ∧ 8 + (maxL + 11) + rm.locals ≤ R.locals) (hrc : rm.cells = 0) (hrs : rm.slots = 0) (hf : cells ≤ R.cells ∧ slots ≤ R.slots) (hdg : decode cc0 pc = .ok (.invokevirtual idx, 3))
    (kk : ∀ (r : Int64) (u : S) (H1 : Heap) (locs1 : List Loc), post r u → va_P D vwCl (w1 u) H1 → va_D A (w1 u) → va_S A s.heap H1 locs1 → W p l e R s m args below meth c H1 locs1 cells slots Q (F0 m (pc + 3) ls (.long r :: rest))) : W p l e R s m args below meth c H locs cells slots Q (F0 m pc ls st) :=
  zk_vl (wr := []) C0 hP hD hS hM hk hin.1 hin.2 ci hcl q0 hrc0 (List.range ws.length) [] (zz_rg ws) rfl ⟨zz_nd_range _, rfl, fun _ h => by cases h⟩ hsz hstk hlen hroom hR hrc hrs hf hdg kk
end ZKFvl
section ZKFsv
variable {p : Program} {l : Launch} {e : Env} {R : Room} {s : State} {m : MethodId} {args : Array Value} {below : List Frame} {meth : Method} {c : Code} {H : Heap} {locs : List Loc} {cells slots : Nat} {Q : State → Prop}
/-- a call whose world is all of this one's -/
theorem zf_sv {S : Type} {D : va_G} {tys : List (ClassId × FieldType)} {A : Nat → Prop} {cc0 cc : ByteArray} {own : String} {idx nL maxL n pc : Nat} {y : MethodName} {ret ret0 : Option FieldType} {rm : Room} {av rest st : List Value} {ws : va_W} {post : S → Prop} {w1 : S → va_W} {ls : Array Slot}
    (C0 : zX D tys p s m args meth c cc0 ret0 nL own A) (hP : va_P D vwCl ws H) (hD : va_D A ws) (hS : va_S A s.heap H locs)
    (hM : zc_v l D tys y cc maxL ret rm (av) ws post w1 0 0) (hk : zk_ok own idx y cc maxL ret n) (hst : Cond.static y ∈ lw_gd)
    (hsz : ls.size = nL) (hstk : st = av.reverse ++ rest) (hlen : av.length = n) (hroom : (rest.map fun v => v.category).sum ≤ 8) (hR : rm.frames + 1 ≤ R.frames ∧ 8 + (maxL + 11) + rm.locals ≤ R.locals) (hrc : rm.cells = 0) (hrs : rm.slots = 0) (hf : cells ≤ R.cells ∧ slots ≤ R.slots) (hdg : decode cc0 pc = .ok (.invokestatic idx, 3))
    (kk : ∀ (u : S) (H1 : Heap) (locs1 : List Loc), post u → va_P D vwCl (w1 u) H1 → va_D A (w1 u) → va_S A s.heap H1 locs1 → W p l e R s m args below meth c H1 locs1 cells slots Q (F0 m (pc + 3) ls (rest))) : W p l e R s m args below meth c H locs cells slots Q (F0 m pc ls st) :=
  zk_sv (wr := []) C0 hP hD hS hM hk hst (List.range ws.length) [] (zz_rg ws) rfl ⟨zz_nd_range _, rfl, fun _ h => by cases h⟩ hsz hstk hlen hroom hR hrc hrs hf hdg kk
end ZKFsv
section ZKFvv
variable {p : Program} {l : Launch} {e : Env} {R : Room} {s : State} {m : MethodId} {args : Array Value} {below : List Frame} {meth : Method} {c : Code} {H : Heap} {locs : List Loc} {cells slots : Nat} {Q : State → Prop}
/-- a call whose world is all of this one's -/
theorem zf_vv {S : Type} {D : va_G} {tys : List (ClassId × FieldType)} {A : Nat → Prop} {cc0 cc : ByteArray} {own : String} {idx nL maxL n pc : Nat} {y : MethodName} {ret ret0 : Option FieldType} {rm : Room} {b0 : Nat} {av rest st : List Value} {ws : va_W} {post : S → Prop} {w1 : S → va_W} {ls : Array Slot}
    (C0 : zX D tys p s m args meth c cc0 ret0 nL own A) (hP : va_P D vwCl ws H) (hD : va_D A ws) (hS : va_S A s.heap H locs)
    (hM : zc_v l D tys y cc maxL ret rm (.ref b0 :: av) ws post w1 0 0) (hk : zk_ok own idx y cc maxL ret n) (hin : Cond.instanceMethod y ∈ lw_gd ∧ Cond.selects y.cls y y ∈ lw_gd) (ci : Nat) {fs : List Value} {T : u_T} {N : Nat} (hcl : vwCl[ci]? = some (y.cls, T, N)) (q0 : Nat) (hrc0 : ws[q0]? = some (b0, .inr (ci, fs)))
    (hsz : ls.size = nL) (hstk : st = av.reverse ++ .ref b0 :: rest) (hlen : av.length = n) (hroom : (rest.map fun v => v.category).sum ≤ 8) (hR : rm.frames + 1 ≤ R.frames ∧ 8 + (maxL + 11) + rm.locals ≤ R.locals) (hrc : rm.cells = 0) (hrs : rm.slots = 0) (hf : cells ≤ R.cells ∧ slots ≤ R.slots) (hdg : decode cc0 pc = .ok (.invokevirtual idx, 3))
    (kk : ∀ (u : S) (H1 : Heap) (locs1 : List Loc), post u → va_P D vwCl (w1 u) H1 → va_D A (w1 u) → va_S A s.heap H1 locs1 → W p l e R s m args below meth c H1 locs1 cells slots Q (F0 m (pc + 3) ls (rest))) : W p l e R s m args below meth c H locs cells slots Q (F0 m pc ls st) :=
  zk_vv (wr := []) C0 hP hD hS hM hk hin.1 hin.2 ci hcl q0 hrc0 (List.range ws.length) [] (zz_rg ws) rfl ⟨zz_nd_range _, rfl, fun _ h => by cases h⟩ hsz hstk hlen hroom hR hrc hrs hf hdg kk
end ZKFvv
/-- a truth as an int -/
def zb (b : Bool) : Int32 := if b = true then 1 else 0
theorem zb_f {b : Bool} (h : zb b = 0) : b = false := by cases b; rfl; exact absurd h (by decide)
theorem zb_t {b : Bool} (h : ¬ zb b = 0) : b = true := by cases b; exact absurd rfl h; rfl
theorem zb_n (b : Bool) : narrow .boolean (.int (zb b)) = .int (zb b) := by cases b <;> rfl
section ZL
variable {p : Program} {l : Launch} {e : Env} {R : Room} {s : State} {m : MethodId} {args : Array Value} {below : List Frame} {meth : Method} {c : Code} {H : Heap} {locs : List Loc} {cells slots : Nat} {Q : State → Prop}
variable {cc : ByteArray} {x y : Int64} {pc tgt : Nat} {off : Int} {ls : Array Slot} {rest : List Value}
theorem zl_eq (hx : p.tables.exec = Jvm.exec) (hb : c.code = cc) (h1 : decode cc pc = .ok (.lcmp, 1)) (h2 : decode cc (pc + 1) = .ok (.ifCond .eq off, 3)) (ht : ((pc + 1 : Nat) : Int) + off = (tgt : Int)) (kt : x = y → W p l e R s m args below meth c H locs cells slots Q (F0 m tgt ls rest)) (kf : ¬ (x = y) → W p l e R s m args below meth c H locs cells slots Q (F0 m (pc + 4) ls rest)) : W p l e R s m args below meth c H locs cells slots Q (F0 m pc ls (.long y :: .long x :: rest)) :=
  W.lcmp hx hb h1 (lv_if_eq hx hb h2 ht (fun h => kt ((lg_cmp_eq x y).mp h)) (fun h => kf (fun z => h ((lg_cmp_eq x y).mpr z))))
theorem zl_ne (hx : p.tables.exec = Jvm.exec) (hb : c.code = cc) (h1 : decode cc pc = .ok (.lcmp, 1)) (h2 : decode cc (pc + 1) = .ok (.ifCond .ne off, 3)) (ht : ((pc + 1 : Nat) : Int) + off = (tgt : Int)) (kt : ¬ x = y → W p l e R s m args below meth c H locs cells slots Q (F0 m tgt ls rest)) (kf : x = y → W p l e R s m args below meth c H locs cells slots Q (F0 m (pc + 4) ls rest)) : W p l e R s m args below meth c H locs cells slots Q (F0 m pc ls (.long y :: .long x :: rest)) :=
  W.lcmp hx hb h1 (lv_if_ne hx hb h2 ht (fun h => kt ((not_congr (lg_cmp_eq x y)).mp h)) (fun h => kf ((lg_cmp_eq x y).mp h)))
theorem zl_lt (hx : p.tables.exec = Jvm.exec) (hb : c.code = cc) (h1 : decode cc pc = .ok (.lcmp, 1)) (h2 : decode cc (pc + 1) = .ok (.ifCond .lt off, 3)) (ht : ((pc + 1 : Nat) : Int) + off = (tgt : Int)) (kt : x < y → W p l e R s m args below meth c H locs cells slots Q (F0 m tgt ls rest)) (kf : ¬ (x < y) → W p l e R s m args below meth c H locs cells slots Q (F0 m (pc + 4) ls rest)) : W p l e R s m args below meth c H locs cells slots Q (F0 m pc ls (.long y :: .long x :: rest)) :=
  W.lcmp hx hb h1 (lv_if_lt hx hb h2 ht (fun h => kt ((lg_cmp_lt x y).mp h)) (fun h => kf (fun z => h ((lg_cmp_lt x y).mpr z))))
theorem zl_ge (hx : p.tables.exec = Jvm.exec) (hb : c.code = cc) (h1 : decode cc pc = .ok (.lcmp, 1)) (h2 : decode cc (pc + 1) = .ok (.ifCond .ge off, 3)) (ht : ((pc + 1 : Nat) : Int) + off = (tgt : Int)) (kt : y ≤ x → W p l e R s m args below meth c H locs cells slots Q (F0 m tgt ls rest)) (kf : ¬ (y ≤ x) → W p l e R s m args below meth c H locs cells slots Q (F0 m (pc + 4) ls rest)) : W p l e R s m args below meth c H locs cells slots Q (F0 m pc ls (.long y :: .long x :: rest)) :=
  W.lcmp hx hb h1 (lv_if_ge hx hb h2 ht (fun h => kt ((lg_cmp_ge x y).mp h)) (fun h => kf (fun z => h ((lg_cmp_ge x y).mpr z))))
theorem zl_gt (hx : p.tables.exec = Jvm.exec) (hb : c.code = cc) (h1 : decode cc pc = .ok (.lcmp, 1)) (h2 : decode cc (pc + 1) = .ok (.ifCond .gt off, 3)) (ht : ((pc + 1 : Nat) : Int) + off = (tgt : Int)) (kt : y < x → W p l e R s m args below meth c H locs cells slots Q (F0 m tgt ls rest)) (kf : ¬ (y < x) → W p l e R s m args below meth c H locs cells slots Q (F0 m (pc + 4) ls rest)) : W p l e R s m args below meth c H locs cells slots Q (F0 m pc ls (.long y :: .long x :: rest)) :=
  W.lcmp hx hb h1 (lv_if_gt hx hb h2 ht (fun h => kt ((lg_cmp_gt x y).mp h)) (fun h => kf (fun z => h ((lg_cmp_gt x y).mpr z))))
theorem zl_le (hx : p.tables.exec = Jvm.exec) (hb : c.code = cc) (h1 : decode cc pc = .ok (.lcmp, 1)) (h2 : decode cc (pc + 1) = .ok (.ifCond .le off, 3)) (ht : ((pc + 1 : Nat) : Int) + off = (tgt : Int)) (kt : x ≤ y → W p l e R s m args below meth c H locs cells slots Q (F0 m tgt ls rest)) (kf : ¬ (x ≤ y) → W p l e R s m args below meth c H locs cells slots Q (F0 m (pc + 4) ls rest)) : W p l e R s m args below meth c H locs cells slots Q (F0 m pc ls (.long y :: .long x :: rest)) :=
  W.lcmp hx hb h1 (lv_if_le hx hb h2 ht (fun h => kt ((lg_cmp_le x y).mp h)) (fun h => kf (fun z => h ((lg_cmp_le x y).mpr z))))
end ZL
section ZA
variable {p : Program} {l : Launch} {e : Env} {R : Room} {s : State} {m : MethodId} {args : Array Value} {below : List Frame} {meth : Method} {c : Code} {H : Heap} {locs : List Loc} {cells slots : Nat} {Q : State → Prop}
variable {D : va_G} {tys : List (ClassId × FieldType)} {A : Nat → Prop} {ws : va_W} {a n k pc : Nat} {cA : ClassId} {i : Int32} {cc : ByteArray} {ls : Array Slot} {rest : List Value}
theorem za_iald (hx : p.tables.exec = Jvm.exec) (hb : c.code = cc) (hK : va_K D vwCl tys s) (hP : va_P D vwCl ws H) (q0 t0 : Nat) {f : Nat → Int32} (ha : ws[q0]? = some (a, .inl (cA, n, .inl f))) (ht : tys[t0]? = some (cA, .int)) (hi : i = nI k) (hk : k < n) (hn : n < 2 ^ 31) {v : Int32} (hv : f k = v) (hdg : decode cc pc = .ok (.iaload, 1))
    (kk : W p l e R s m args below meth c H locs cells slots Q (F0 m (pc + 1) ls (.int v :: rest))) : W p l e R s m args below meth c H locs cells slots Q (F0 m pc ls (.int i :: .ref a :: rest)) := by
  subst hi
  refine va_iald hx hb hK hP q0 t0 ha ht (vp_in_nI hk hn) hdg ?_
  rw [nI_clamp (Nat.lt_trans hk hn), hv]
  exact kk
theorem za_lald (hx : p.tables.exec = Jvm.exec) (hb : c.code = cc) (hK : va_K D vwCl tys s) (hP : va_P D vwCl ws H) (q0 t0 : Nat) {f : Nat → Int64} (ha : ws[q0]? = some (a, .inl (cA, n, .inr (.inl f)))) (ht : tys[t0]? = some (cA, .long)) (hi : i = nI k) (hk : k < n) (hn : n < 2 ^ 31) {v : Int64} (hv : f k = v) (hdg : decode cc pc = .ok (.laload, 1))
    (kk : W p l e R s m args below meth c H locs cells slots Q (F0 m (pc + 1) ls (.long v :: rest))) : W p l e R s m args below meth c H locs cells slots Q (F0 m pc ls (.int i :: .ref a :: rest)) := by
  subst hi
  refine va_lald hx hb hK hP q0 t0 ha ht (vp_in_nI hk hn) hdg ?_
  rw [nI_clamp (Nat.lt_trans hk hn), hv]
  exact kk
theorem za_aald (hx : p.tables.exec = Jvm.exec) (hb : c.code = cc) (hK : va_K D vwCl tys s) (hP : va_P D vwCl ws H) (q0 t0 : Nat) {f : Nat → Option Nat} {C : String} {z : Nat} (ha : ws[q0]? = some (a, .inl (cA, n, .inr (.inr (.inr (.inr f)))))) (ht : tys[t0]? = some (cA, .object C)) (hi : i = nI k) (hk : k < n) (hn : n < 2 ^ 31) (hz : f k = some z) (hdg : decode cc pc = .ok (.aaload, 1))
    (kk : W p l e R s m args below meth c H locs cells slots Q (F0 m (pc + 1) ls (.ref z :: rest))) : W p l e R s m args below meth c H locs cells slots Q (F0 m pc ls (.int i :: .ref a :: rest)) := by
  subst hi
  refine va_aldq hx hb hK hP q0 t0 ha ht (vp_in_nI hk hn) hdg ?_
  rw [nI_clamp (Nat.lt_trans hk hn), hz]
  exact kk
theorem za_iast (hx : p.tables.exec = Jvm.exec) (hb : c.code = cc) (hK : va_K D vwCl tys s) (hP : va_P D vwCl ws H) (hD : va_D A ws) (hS : va_S A s.heap H locs) (q0 t0 : Nat) {f : Nat → Int32} {x : Int32} (ha : ws[q0]? = some (a, .inl (cA, n, .inl f))) (ht : tys[t0]? = some (cA, .int)) (hi : i = nI k) (hk : k < n) (hn : n < 2 ^ 31) (hdg : decode cc pc = .ok (.iastore, 1))
    (kk : ∀ (H1 : Heap) (locs1 : List Loc), va_P D vwCl (ws.set q0 (a, .inl (cA, n, .inl (upd f k x)))) H1 → va_D A (ws.set q0 (a, .inl (cA, n, .inl (upd f k x)))) → va_S A s.heap H1 locs1 → W p l e R s m args below meth c H1 locs1 cells slots Q (F0 m (pc + 1) ls rest)) : W p l e R s m args below meth c H locs cells slots Q (F0 m pc ls (.int x :: .int i :: .ref a :: rest)) := by
  subst hi
  refine va_iast hx hb hK hP hD hS q0 t0 ha ht (vp_in_nI hk hn) hdg ?_
  rw [nI_clamp (Nat.lt_trans hk hn)]
  exact kk
theorem za_last (hx : p.tables.exec = Jvm.exec) (hb : c.code = cc) (hK : va_K D vwCl tys s) (hP : va_P D vwCl ws H) (hD : va_D A ws) (hS : va_S A s.heap H locs) (q0 t0 : Nat) {f : Nat → Int64} {x : Int64} (ha : ws[q0]? = some (a, .inl (cA, n, .inr (.inl f)))) (ht : tys[t0]? = some (cA, .long)) (hi : i = nI k) (hk : k < n) (hn : n < 2 ^ 31) (hdg : decode cc pc = .ok (.lastore, 1))
    (kk : ∀ (H1 : Heap) (locs1 : List Loc), va_P D vwCl (ws.set q0 (a, .inl (cA, n, .inr (.inl (vp_updL f k x))))) H1 → va_D A (ws.set q0 (a, .inl (cA, n, .inr (.inl (vp_updL f k x))))) → va_S A s.heap H1 locs1 → W p l e R s m args below meth c H1 locs1 cells slots Q (F0 m (pc + 1) ls rest)) : W p l e R s m args below meth c H locs cells slots Q (F0 m pc ls (.long x :: .int i :: .ref a :: rest)) := by
  subst hi
  refine va_last hx hb hK hP hD hS q0 t0 ha ht (vp_in_nI hk hn) hdg ?_
  rw [nI_clamp (Nat.lt_trans hk hn)]
  exact kk
end ZA
/-- the frame: a contract over fewer cells is one over more -/
theorem zi_frame {S : Type} {l : Launch} {D : va_G} {tys : List (ClassId × FieldType)} {y : MethodName} {cc : ByteArray} {maxL : Nat} {ret : Option FieldType} {rm : Room} {av : List Value} {w0 ws wr : va_W} {post : Int32 → S → Prop} {w1 : S → va_W} {mc ms : Nat} (hM : zc_i l D tys y cc maxL ret rm av w0 post w1 mc ms)
    (isC isR : List Nat) (hC : isC.map (fun i => ws[i]?) = w0.map some) (hRr : isR.map (fun i => ws[i]?) = wr.map some) (hnd : va_nd isC = true ∧ va_nd isR = true ∧ ∀ i ∈ isR, i ∉ isC) : zc_i l D tys y cc maxL ret rm av ws post (fun u => wr ++ w1 u) mc ms := by
  intro sz
  have hsub : ∀ q, va_A w0 sz q → va_A ws sz q := by
    intro q hq
    rcases hq with ⟨k, e, hk⟩ | hq
    · left
      have h1 : w0[k]? = some (q, e) := hk
      have h2 : (isC.map (fun i => ws[i]?))[k]? = some (some (q, e)) := by rw [hC, List.getElem?_map, h1]; rfl
      rw [List.getElem?_map] at h2
      cases h3 : isC[k]? with
      | none => rw [h3] at h2; cases h2
      | some i => rw [h3] at h2; exact ⟨i, e, Option.some.inj h2⟩
    · exact Or.inr hq
  refine MetFree.mono (hM sz) (fun a U h => ?_) (fun _ _ _ _ _ h => h) (fun a U o t h hq => ?_)
  · obtain ⟨h0, h1, hP, hK, hD, hN⟩ := h
    exact ⟨h0, h1, hP.sub isC (zz_fm _ isC w0 hC), hK, hD.sub isC hnd.1 hC, hN⟩
  · obtain ⟨h0, h1, hP, hK, hD, hN⟩ := h
    obtain ⟨⟨⟨r, u, hoc, hp, hP1, hD1⟩, hF⟩, L, hL, hfr⟩ := hq
    have hD' : va_D (va_A ws sz) ws := hD.self
    obtain ⟨hP2, hD2⟩ := va_join (A0 := va_A ws sz) (H := U.heap) (H1 := t.heap) hP hD' isC isR hC hRr hnd.2.1 hnd.2.2 (fun q hq1 hq2 => hF.2 q hq1 (fun z => hq2 (by rw [h1]; exact z))) (fun q hq => hsub q (by rw [← h1]; exact hq)) hP1 (by rw [h1]; exact hD1)
    exact ⟨⟨⟨r, u, hoc, hp, hP2, hD2⟩, hF.1, fun q hq1 hq2 => hF.2 q hq1 (fun z => hq2 (hsub q z))⟩, L, hL, fun q hq => hsub _ (hfr q hq)⟩
/-- the frame: a contract over fewer cells is one over more -/
theorem zl_frame {S : Type} {l : Launch} {D : va_G} {tys : List (ClassId × FieldType)} {y : MethodName} {cc : ByteArray} {maxL : Nat} {ret : Option FieldType} {rm : Room} {av : List Value} {w0 ws wr : va_W} {post : Int64 → S → Prop} {w1 : S → va_W} {mc ms : Nat} (hM : zc_l l D tys y cc maxL ret rm av w0 post w1 mc ms)
    (isC isR : List Nat) (hC : isC.map (fun i => ws[i]?) = w0.map some) (hRr : isR.map (fun i => ws[i]?) = wr.map some) (hnd : va_nd isC = true ∧ va_nd isR = true ∧ ∀ i ∈ isR, i ∉ isC) : zc_l l D tys y cc maxL ret rm av ws post (fun u => wr ++ w1 u) mc ms := by
  intro sz
  have hsub : ∀ q, va_A w0 sz q → va_A ws sz q := by
    intro q hq
    rcases hq with ⟨k, e, hk⟩ | hq
    · left
      have h1 : w0[k]? = some (q, e) := hk
      have h2 : (isC.map (fun i => ws[i]?))[k]? = some (some (q, e)) := by rw [hC, List.getElem?_map, h1]; rfl
      rw [List.getElem?_map] at h2
      cases h3 : isC[k]? with
      | none => rw [h3] at h2; cases h2
      | some i => rw [h3] at h2; exact ⟨i, e, Option.some.inj h2⟩
    · exact Or.inr hq
  refine MetFree.mono (hM sz) (fun a U h => ?_) (fun _ _ _ _ _ h => h) (fun a U o t h hq => ?_)
  · obtain ⟨h0, h1, hP, hK, hD, hN⟩ := h
    exact ⟨h0, h1, hP.sub isC (zz_fm _ isC w0 hC), hK, hD.sub isC hnd.1 hC, hN⟩
  · obtain ⟨h0, h1, hP, hK, hD, hN⟩ := h
    obtain ⟨⟨⟨r, u, hoc, hp, hP1, hD1⟩, hF⟩, L, hL, hfr⟩ := hq
    have hD' : va_D (va_A ws sz) ws := hD.self
    obtain ⟨hP2, hD2⟩ := va_join (A0 := va_A ws sz) (H := U.heap) (H1 := t.heap) hP hD' isC isR hC hRr hnd.2.1 hnd.2.2 (fun q hq1 hq2 => hF.2 q hq1 (fun z => hq2 (by rw [h1]; exact z))) (fun q hq => hsub q (by rw [← h1]; exact hq)) hP1 (by rw [h1]; exact hD1)
    exact ⟨⟨⟨r, u, hoc, hp, hP2, hD2⟩, hF.1, fun q hq1 hq2 => hF.2 q hq1 (fun z => hq2 (hsub q z))⟩, L, hL, fun q hq => hsub _ (hfr q hq)⟩
/-- the frame: a contract over fewer cells is one over more -/
theorem zv_frame {S : Type} {l : Launch} {D : va_G} {tys : List (ClassId × FieldType)} {y : MethodName} {cc : ByteArray} {maxL : Nat} {ret : Option FieldType} {rm : Room} {av : List Value} {w0 ws wr : va_W} {post : S → Prop} {w1 : S → va_W} {mc ms : Nat} (hM : zc_v l D tys y cc maxL ret rm av w0 post w1 mc ms)
    (isC isR : List Nat) (hC : isC.map (fun i => ws[i]?) = w0.map some) (hRr : isR.map (fun i => ws[i]?) = wr.map some) (hnd : va_nd isC = true ∧ va_nd isR = true ∧ ∀ i ∈ isR, i ∉ isC) : zc_v l D tys y cc maxL ret rm av ws post (fun u => wr ++ w1 u) mc ms := by
  intro sz
  have hsub : ∀ q, va_A w0 sz q → va_A ws sz q := by
    intro q hq
    rcases hq with ⟨k, e, hk⟩ | hq
    · left
      have h1 : w0[k]? = some (q, e) := hk
      have h2 : (isC.map (fun i => ws[i]?))[k]? = some (some (q, e)) := by rw [hC, List.getElem?_map, h1]; rfl
      rw [List.getElem?_map] at h2
      cases h3 : isC[k]? with
      | none => rw [h3] at h2; cases h2
      | some i => rw [h3] at h2; exact ⟨i, e, Option.some.inj h2⟩
    · exact Or.inr hq
  refine MetFree.mono (hM sz) (fun a U h => ?_) (fun _ _ _ _ _ h => h) (fun a U o t h hq => ?_)
  · obtain ⟨h0, h1, hP, hK, hD, hN⟩ := h
    exact ⟨h0, h1, hP.sub isC (zz_fm _ isC w0 hC), hK, hD.sub isC hnd.1 hC, hN⟩
  · obtain ⟨h0, h1, hP, hK, hD, hN⟩ := h
    obtain ⟨⟨⟨u, hoc, hp, hP1, hD1⟩, hF⟩, L, hL, hfr⟩ := hq
    have hD' : va_D (va_A ws sz) ws := hD.self
    obtain ⟨hP2, hD2⟩ := va_join (A0 := va_A ws sz) (H := U.heap) (H1 := t.heap) hP hD' isC isR hC hRr hnd.2.1 hnd.2.2 (fun q hq1 hq2 => hF.2 q hq1 (fun z => hq2 (by rw [h1]; exact z))) (fun q hq => hsub q (by rw [← h1]; exact hq)) hP1 (by rw [h1]; exact hD1)
    exact ⟨⟨⟨u, hoc, hp, hP2, hD2⟩, hF.1, fun q hq1 hq2 => hF.2 q hq1 (fun z => hq2 (hsub q z))⟩, L, hL, fun q hq => hsub _ (hfr q hq)⟩
theorem zr_eq {s : State} {a b : ClassId} {ty : FieldType} (hna : ty = .int ∨ ty = .long) (h1 : va_RA s a ty) (h2 : va_RA s b ty) : a = b := by
  rcases hna with rfl | rfl <;> exact Option.some.inj (Eq.trans (Eq.symm h1) h2)
section ZNi
variable {p : Program} {l : Launch} {e : Env} {R : Room} {s : State} {m : MethodId} {args : Array Value} {below : List Frame} {meth : Method} {c : Code} {H : Heap} {locs : List Loc} {cells slots : Nat} {Q : State → Prop}
theorem za_newi {D : va_G} {tys : List (ClassId × FieldType)} {A : Nat → Prop} {ws : va_W} {cI : ClassId} {N t0 pc : Nat} {n : Int32} {cc : ByteArray} {ls : Array Slot} {rest : List Value} (hx : p.tables.exec = Jvm.exec) (hb : c.code = cc) (harr : (Cond.arrayClass .int).before args s = true) (hK : va_K D vwCl tys s) (ht : tys[t0]? = some (cI, .int)) (hP : va_P D vwCl ws H) (hD : va_D A ws) (hS : va_S A s.heap H locs) (hA : ∀ q : Nat, s.heap.size ≤ q → A q) (hn : n = nI N) (hN : N ≤ 100000) (hcells : cells + 1 ≤ R.cells) (hslots : slots + N ≤ R.slots) (hdg : decode cc pc = .ok (.newarray .int, 2))
    (kk : ∀ (q : Nat) (H1 : Heap), va_P D vwCl (ws ++ [(q, .inl (cI, N, .inl (fun _ => 0)))]) H1 → va_D A (ws ++ [(q, .inl (cI, N, .inl (fun _ => 0)))]) → va_S A s.heap H1 locs → W p l e R s m args below meth c H1 locs (cells + 1) (slots + N) Q (F0 m (pc + 2) ls (.ref q :: rest))) : W p l e R s m args below meth c H locs cells slots Q (F0 m pc ls (.int n :: rest)) := by
  subst hn
  refine va_newa (atype := .int) (ty := .int) (a0 := (N, .inl (fun _ => 0))) hx hb harr rfl hK hP hD hS hA (fun cA => rfl) (nI_pos (by omega)) (nI_clamp (by omega)) (by show N * _ ≤ _; simp only [componentBytes]; omega) hcells hslots hdg (fun q cA H1 hK1 hP1 hD1 hS1 => ?_)
  have e : cA = cI := zr_eq (by simp) (hK1.2 tys.length (cA, .int) (by simp)).2 (hK.2 t0 (cI, .int) ht).2
  subst e
  exact kk q H1 hP1 hD1 hS1
end ZNi
section ZNl
variable {p : Program} {l : Launch} {e : Env} {R : Room} {s : State} {m : MethodId} {args : Array Value} {below : List Frame} {meth : Method} {c : Code} {H : Heap} {locs : List Loc} {cells slots : Nat} {Q : State → Prop}
theorem za_newl {D : va_G} {tys : List (ClassId × FieldType)} {A : Nat → Prop} {ws : va_W} {cI : ClassId} {N t0 pc : Nat} {n : Int32} {cc : ByteArray} {ls : Array Slot} {rest : List Value} (hx : p.tables.exec = Jvm.exec) (hb : c.code = cc) (harr : (Cond.arrayClass .long).before args s = true) (hK : va_K D vwCl tys s) (ht : tys[t0]? = some (cI, .long)) (hP : va_P D vwCl ws H) (hD : va_D A ws) (hS : va_S A s.heap H locs) (hA : ∀ q : Nat, s.heap.size ≤ q → A q) (hn : n = nI N) (hN : N ≤ 100000) (hcells : cells + 1 ≤ R.cells) (hslots : slots + N ≤ R.slots) (hdg : decode cc pc = .ok (.newarray .long, 2))
    (kk : ∀ (q : Nat) (H1 : Heap), va_P D vwCl (ws ++ [(q, .inl (cI, N, .inr (.inl (fun _ => 0))))]) H1 → va_D A (ws ++ [(q, .inl (cI, N, .inr (.inl (fun _ => 0))))]) → va_S A s.heap H1 locs → W p l e R s m args below meth c H1 locs (cells + 1) (slots + N) Q (F0 m (pc + 2) ls (.ref q :: rest))) : W p l e R s m args below meth c H locs cells slots Q (F0 m pc ls (.int n :: rest)) := by
  subst hn
  refine va_newa (atype := .long) (ty := .long) (a0 := (N, .inr (.inl (fun _ => 0)))) hx hb harr rfl hK hP hD hS hA (fun cA => rfl) (nI_pos (by omega)) (nI_clamp (by omega)) (by show N * _ ≤ _; simp only [componentBytes]; omega) hcells hslots hdg (fun q cA H1 hK1 hP1 hD1 hS1 => ?_)
  have e : cA = cI := zr_eq (by simp) (hK1.2 tys.length (cA, .long) (by simp)).2 (hK.2 t0 (cI, .long) ht).2
  subst e
  exact kk q H1 hP1 hD1 hS1
end ZNl
section ZNq
variable {p : Program} {l : Launch} {e : Env} {R : Room} {s : State} {m : MethodId} {args : Array Value} {below : List Frame} {meth : Method} {c : Code} {H : Heap} {locs : List Loc} {cells slots : Nat} {Q : State → Prop}
theorem za_newq {D : va_G} {tys : List (ClassId × FieldType)} {A : Nat → Prop} {ws : va_W} {cI : ClassId} {C own : String} {N t0 pc index : Nat} {n : Int32} {cc : ByteArray} {ls : Array Slot} {rest : List Value} (hx : p.tables.exec = Jvm.exec) (hb : c.code = cc) (hown : s.vm.findClass own = some m.cls) (hcl : (Cond.classLink own index C).before args s = true) (hao : va_AO C s) (hK : va_K D vwCl tys s) (ht : tys[t0]? = some (cI, .object C)) (hP : va_P D vwCl ws H) (hD : va_D A ws) (hS : va_S A s.heap H locs) (hA : ∀ q : Nat, s.heap.size ≤ q → A q) (hn : n = nI N) (hN : N ≤ 100000) (hcells : cells + 1 ≤ R.cells) (hslots : slots + N ≤ R.slots) (hdg : decode cc pc = .ok (.anewarray index, 3))
    (kk : ∀ (q : Nat) (H1 : Heap), va_P D vwCl (ws ++ [(q, .inl (cI, N, .inr (.inr (.inr (.inr (fun _ => none))))))]) H1 → va_D A (ws ++ [(q, .inl (cI, N, .inr (.inr (.inr (.inr (fun _ => none))))))]) → va_S A s.heap H1 locs → W p l e R s m args below meth c H1 locs (cells + 1) (slots + N) Q (F0 m (pc + 3) ls (.ref q :: rest))) : W p l e R s m args below meth c H locs cells slots Q (F0 m pc ls (.int n :: rest)) := by
  subst hn
  refine va_newq hx hb hown hcl hao hK hP hD hS hA (nI_pos (by omega)) (nI_clamp (by omega)) (by omega) hcells hslots hdg (fun q cA H1 hK1 hP1 hD1 hS1 => ?_)
  obtain ⟨_, _, _, _, _, h1⟩ := (hK1.2 tys.length (cA, .object C) (by simp)).2
  obtain ⟨_, _, _, _, _, h2⟩ := (hK.2 t0 (cI, .object C) ht).2
  have e : cA = cI := Option.some.inj (h1.symm.trans h2)
  subst e
  exact kk q H1 hP1 hD1 hS1
end ZNq
/-- cells that are alike within their length are the same -/
theorem zq_cong {cA : ClassId} {n : Nat} {f g : Nat → Option Nat} (h : ∀ k, k < n → f k = g k) : vp_cell cA (n, .inr (.inr (.inr (.inr f)))) = vp_cell cA (n, .inr (.inr (.inr (.inr g)))) := by
  rw [vp_cell_q, vp_cell_q]
  unfold arrV
  have e : (fun j : Fin n => va_rf (f j.val)) = fun j : Fin n => va_rf (g j.val) := by
    funext j
    rw [h j.val j.isLt]
  show ({ cls := cA, slots := Array.ofFn (fun j : Fin n => va_rf (f j.val)), vm := .none } : Cell) = _
  rw [e]
theorem zp_set {D : va_G} {ws : va_W} {H : Heap} {k : Nat} {q : Nat} {x y : ClassId × vp_A} (hP : va_P D vwCl ws H) (hk : ws[k]? = some (q, .inl x)) (hxy : vp_cell x.1 x.2 = vp_cell y.1 y.2) : va_P D vwCl (ws.set k (q, .inl y)) H := by
  intro i z hz
  by_cases h : i = k
  · subst h
    rw [List.getElem?_set_self (List.getElem?_eq_some_iff.mp hk).1] at hz
    cases hz
    have := hP i _ hk
    show H[q]? = some (vp_cell y.1 y.2)
    rw [← hxy]
    exact this
  · rw [List.getElem?_set_ne (Ne.symm h)] at hz
    exact hP i z hz
theorem zd_set {A : Nat → Prop} {ws : va_W} {k : Nat} {q : Nat} {x y : va_E} (hD : va_D A ws) (hk : ws[k]? = some (q, x)) : va_D A (ws.set k (q, y)) := va_D.set hD hk
section ZKN
variable {p : Program} {l : Launch} {e : Env} {R : Room} {s : State} {m : MethodId} {args : Array Value} {below : List Frame} {meth : Method} {c : Code} {H : Heap} {locs : List Loc} {cells slots : Nat} {Q : State → Prop}
/-- a constructor of a nest mate -/
theorem zk_xvN {S : Type} {D : va_G} {tys : List (ClassId × FieldType)} {A : Nat → Prop} {cc0 cc : ByteArray} {own host : String} {idx nL maxL n mc ms pc : Nat} {y : MethodName} {ret0 : Option FieldType} {rm : Room} {b0 : Nat} {av rest st : List Value} {w0 ws wr : va_W} {post : S → Prop} {w1 : S → va_W} {ls : Array Slot}
    (C0 : zX D tys p s m args meth c cc0 ret0 nL own A) (hP : va_P D vwCl ws H) (hD : va_D A ws) (hS : va_S A s.heap H locs)
    (hM : zc_v l D tys y cc maxL none rm (.ref b0 :: av) w0 post w1 mc ms) (hcode : Cond.code y cc maxL none ∈ lw_gd) (hini : Cond.initialized y.cls ∈ lw_gd) (hlk : va_Nw (.methodLinkNest own idx y host) s) (hin : Cond.instanceMethod y ∈ lw_gd) (hnm : y.name = "<init>") (hd : y.cls ≠ "java/lang/invoke/MethodHandle" ∧ y.cls ≠ "java/lang/invoke/VarHandle" ∧ (parseMethodDescriptor y.desc).map (fun d => d.parameters.length) = some n)
    (isC isR : List Nat) (hC : isC.map (fun i => ws[i]?) = w0.map some) (hRr : isR.map (fun i => ws[i]?) = wr.map some) (hnd : va_nd isC = true ∧ va_nd isR = true ∧ ∀ i ∈ isR, i ∉ isC)
    (hsz : ls.size = nL) (hstk : st = av.reverse ++ .ref b0 :: rest) (hlen : av.length = n) (hroom : (rest.map fun v => v.category).sum ≤ 8) (hR : rm.frames + 1 ≤ R.frames ∧ 8 + (maxL + 11) + rm.locals ≤ R.locals) (hrc : rm.cells = mc) (hrs : rm.slots = ms) (hf : cells + mc ≤ R.cells ∧ slots + ms ≤ R.slots) (hdg : decode cc0 pc = .ok (.invokespecial idx, 3))
    (kk : ∀ (u : S) (H1 : Heap) (locs1 : List Loc), post u → va_P D vwCl (wr ++ w1 u) H1 → va_D A (wr ++ w1 u) → va_S A s.heap H1 locs1 → W p l e R s m args below meth c H1 locs1 (cells + mc) (slots + ms) Q (F0 m (pc + 3) ls rest)) : W p l e R s m args below meth c H locs cells slots Q (F0 m pc ls st) := by
  obtain ⟨hx, hb, hr, hml, hlocks, hown, hts, hK, hA, hN⟩ := C0
  have hPc : va_P D vwCl w0 H := hP.sub isC (zz_fm _ isC w0 hC)
  have hDc : va_D A w0 := hD.sub isC hnd.1 hC
  have hFc := va_free (wc := w0) hD hS hA isC hC
  have hroom : 2 * (F0 m pc ls st).monitorRoom + (rest.map fun v => v.category).sum ≤ 8 := lv_room hroom
  refine va_callv (va_runIN (b := b0) (As := av) (rest := rest) ⟨hx, hb, hml, hown, hts⟩ (hM H.size) ⟨va_cnB n hts (zk_good hcode) rfl hrc hrs hlk (hts _ hini) hd hR, hnm, hts _ hin⟩ ⟨zc_blind D tys (.ref b0 :: av) w0 H.size, fun U hU hW => ⟨rfl, by rw [hU], by rw [hU]; exact hPc, va_K.moved hW.alike hK, hDc.weaken (fun _ _ _ _ => trivial), zN_warm hW hN⟩⟩ rfl hlen hsz hstk hroom hdg hf) hS (fun q _ h => hFc q h) hFc (fun u t H1 locs1 ht hvm hw hB hz1 hk1 hS1 => ?_)
  obtain ⟨hP1, hD1⟩ := hB
  rw [ht] at hP1
  obtain ⟨hP2, hD2⟩ := va_join hP hD isC isR hC hRr hnd.2.1 hnd.2.2 hk1 hFc hP1 hD1
  exact kk u H1 locs1 hw hP2 hD2 hS1
end ZKN
end
section
theorem kk_X0_46 : zk_ok RX0 46 yX0_within cX0_within 6 (some .boolean) 3 ∧ Cond.static yX0_within ∈ lw_gd := by unfold zk_ok; exact ⟨⟨lw_at 21 rfl rfl, lw_in (by decide +kernel), lw_in (by decide +kernel), by decide +kernel⟩, lw_in (by decide +kernel)⟩
theorem kk_X0_59 : zk_ok RX0 59 yJ_fill cJ_fill 4 none 2 := by unfold zk_ok; exact ⟨lw_at 24 rfl rfl, lw_in (by decide +kernel), lw_in (by decide +kernel), by decide +kernel⟩
theorem kk_X0_66 : zk_ok RX0 66 yX0_isLayer cX0_isLayer 2 (some .boolean) 1 := by unfold zk_ok; exact ⟨lw_at 105 rfl rfl, lw_in (by decide +kernel), lw_in (by decide +kernel), by decide +kernel⟩
theorem kk_X0_72 : zk_ok RX0 72 yX0_isParts cX0_isParts 1 (some .boolean) 1 ∧ Cond.static yX0_isParts ∈ lw_gd := by unfold zk_ok; exact ⟨⟨lw_at 109 rfl rfl, lw_in (by decide +kernel), lw_in (by decide +kernel), by decide +kernel⟩, lw_in (by decide +kernel)⟩
theorem kk_X0_98 : zk_ok RX0 98 yX0_areDaysToRun cX0_areDaysToRun 2 (some .boolean) 1 := by unfold zk_ok; exact ⟨lw_at 144 rfl rfl, lw_in (by decide +kernel), lw_in (by decide +kernel), by decide +kernel⟩
theorem kk_X0_105 : zk_ok RX0 105 yX0_runNextDay cX0_runNextDay 5 none 0 := by unfold zk_ok; exact ⟨lw_at 155 rfl rfl, lw_in (by decide +kernel), lw_in (by decide +kernel), by decide +kernel⟩
theorem kk_X0_110 : zk_ok RX0 110 yX0_dayThatPasses cX0_dayThatPasses 4 (some .int) 1 := by unfold zk_ok; exact ⟨lw_at 209 rfl rfl, lw_in (by decide +kernel), lw_in (by decide +kernel), by decide +kernel⟩
theorem kk_X0_114 : zk_ok RX0 114 yX0_dayUpToWhichMeanPasses cX0_dayUpToWhichMeanPasses 6 (some .int) 1 := by unfold zk_ok; exact ⟨lw_at 213 rfl rfl, lw_in (by decide +kernel), lw_in (by decide +kernel), by decide +kernel⟩
theorem kk_X0_117 : zk_ok RX0 117 yX0_isWell cX0_isWell 1 (some .boolean) 1 ∧ Cond.static yX0_isWell ∈ lw_gd := by unfold zk_ok; exact ⟨⟨lw_at 220 rfl rfl, lw_in (by decide +kernel), lw_in (by decide +kernel), by decide +kernel⟩, lw_in (by decide +kernel)⟩
theorem kk_X0_124 : zk_ok RX0 124 yX1_take cX1_take 3 (some .boolean) 2 := by unfold zk_ok; exact ⟨lw_at 227 rfl rfl, lw_in (by decide +kernel), lw_in (by decide +kernel), by decide +kernel⟩
theorem kk_X0_131 : zk_ok RX0 131 yX1_risesLessFalls cX1_risesLessFalls 4 (some .int) 0 := by unfold zk_ok; exact ⟨lw_at 239 rfl rfl, lw_in (by decide +kernel), lw_in (by decide +kernel), by decide +kernel⟩
theorem kk_X0_135 : zk_ok RX0 135 yX0_ordersAsFar cX0_ordersAsFar 6 (some .int) 2 := by unfold zk_ok; exact ⟨lw_at 250 rfl rfl, lw_in (by decide +kernel), lw_in (by decide +kernel), by decide +kernel⟩
theorem kk_X0_139 : zk_ok RX0 139 yX0_ordersOf cX0_ordersOf 3 (some .int) 1 ∧ Cond.static yX0_ordersOf ∈ lw_gd := by unfold zk_ok; exact ⟨⟨lw_at 264 rfl rfl, lw_in (by decide +kernel), lw_in (by decide +kernel), by decide +kernel⟩, lw_in (by decide +kernel)⟩
theorem kk_X0_142 : zk_ok RX0 142 yX0_commonDivisor cX0_commonDivisor 6 (some .int) 2 ∧ Cond.static yX0_commonDivisor ∈ lw_gd := by unfold zk_ok; exact ⟨⟨lw_at 267 rfl rfl, lw_in (by decide +kernel), lw_in (by decide +kernel), by decide +kernel⟩, lw_in (by decide +kernel)⟩
theorem kk_X0_151 : zk_ok RX0 151 yX0_comeIn cX0_comeIn 5 none 1 := by unfold zk_ok; exact ⟨lw_at 159 rfl rfl, lw_in (by decide +kernel), lw_in (by decide +kernel), by decide +kernel⟩
theorem kk_X0_155 : zk_ok RX0 155 yX0_passDown cX0_passDown 6 (some .long) 0 := by unfold zk_ok; exact ⟨lw_at 166 rfl rfl, lw_in (by decide +kernel), lw_in (by decide +kernel), by decide +kernel⟩
theorem kk_X0_159 : zk_ok RX0 159 yX0_fillTank cX0_fillTank 9 none 1 := by unfold zk_ok; exact ⟨lw_at 173 rfl rfl, lw_in (by decide +kernel), lw_in (by decide +kernel), by decide +kernel⟩
theorem kk_X0_162 : zk_ok RX0 162 yX0_clean cX0_clean 8 (some .long) 0 := by unfold zk_ok; exact ⟨lw_at 177 rfl rfl, lw_in (by decide +kernel), lw_in (by decide +kernel), by decide +kernel⟩
theorem kk_X0_165 : zk_ok RX0 165 yX0_partAtTheEnd cX0_partAtTheEnd 7 (some .long) 1 := by unfold zk_ok; exact ⟨lw_at 184 rfl rfl, lw_in (by decide +kernel), lw_in (by decide +kernel), by decide +kernel⟩
theorem kk_X0_169 : zk_ok RX0 169 yX0_partsOf cX0_partsOf 3 (some .long) 2 ∧ Cond.static yX0_partsOf ∈ lw_gd := by unfold zk_ok; exact ⟨⟨lw_at 162 rfl rfl, lw_in (by decide +kernel), lw_in (by decide +kernel), by decide +kernel⟩, lw_in (by decide +kernel)⟩
theorem kk_X0_182 : zk_ok RX0 182 yX0_countOrdersByFalls cX0_countOrdersByFalls 3 none 1 := by unfold zk_ok; exact ⟨lw_at 254 rfl rfl, lw_in (by decide +kernel), lw_in (by decide +kernel), by decide +kernel⟩
theorem kk_X0_189 : zk_ok RX0 189 yX0_addValueToOrders cX0_addValueToOrders 3 none 1 := by unfold zk_ok; exact ⟨lw_at 258 rfl rfl, lw_in (by decide +kernel), lw_in (by decide +kernel), by decide +kernel⟩
theorem kk_X1_22 : zk_ok RX1 22 yX1_has cX1_has 3 (some .boolean) 1 := by unfold zk_ok; exact ⟨lw_at 231 rfl rfl, lw_in (by decide +kernel), lw_in (by decide +kernel), by decide +kernel⟩
theorem kk_X1_26 : zk_ok RX1 26 yJ_compare cJ_compare 2 (some .int) 2 ∧ Cond.static yJ_compare ∈ lw_gd := by unfold zk_ok; exact ⟨⟨lw_at 242 rfl rfl, lw_in (by decide +kernel), lw_in (by decide +kernel), by decide +kernel⟩, lw_in (by decide +kernel)⟩
theorem kk_X2_63 : zk_ok RX2 63 yX2_isIn cX2_isIn 6 (some .boolean) 3 ∧ Cond.static yX2_isIn ∈ lw_gd := by unfold zk_ok; exact ⟨⟨lw_at 354 rfl rfl, lw_in (by decide +kernel), lw_in (by decide +kernel), by decide +kernel⟩, lw_in (by decide +kernel)⟩
theorem kk_X2_69 : zk_ok RX2 69 yX2_isParts cX2_isParts 1 (some .boolean) 1 ∧ Cond.static yX2_isParts ∈ lw_gd := by unfold zk_ok; exact ⟨⟨lw_at 358 rfl rfl, lw_in (by decide +kernel), lw_in (by decide +kernel), by decide +kernel⟩, lw_in (by decide +kernel)⟩
theorem kk_X2_103 : zk_ok RX2 103 yX2_partsOf cX2_partsOf 3 (some .long) 2 ∧ Cond.static yX2_partsOf ∈ lw_gd := by unfold zk_ok; exact ⟨⟨lw_at 402 rfl rfl, lw_in (by decide +kernel), lw_in (by decide +kernel), by decide +kernel⟩, lw_in (by decide +kernel)⟩
theorem kk_X2_107 : zk_ok RX2 107 yX2_stagesRun cX2_stagesRun 10 none 0 := by unfold zk_ok; exact ⟨lw_at 407 rfl rfl, lw_in (by decide +kernel), lw_in (by decide +kernel), by decide +kernel⟩
theorem kk_X2_110 : zk_ok RX2 110 yX2_dayRuns cX2_dayRuns 11 none 0 := by unfold zk_ok; exact ⟨lw_at 399 rfl rfl, lw_in (by decide +kernel), lw_in (by decide +kernel), by decide +kernel⟩
theorem kk_X2_115 : zk_ok RX2 115 yX2_isWell cX2_isWell 1 (some .boolean) 1 ∧ Cond.static yX2_isWell ∈ lw_gd := by unfold zk_ok; exact ⟨⟨lw_at 435 rfl rfl, lw_in (by decide +kernel), lw_in (by decide +kernel), by decide +kernel⟩, lw_in (by decide +kernel)⟩
theorem kk_X2_122 : zk_ok RX2 122 yX2_trend cX2_trend 5 (some .int) 1 := by unfold zk_ok; exact ⟨lw_at 441 rfl rfl, lw_in (by decide +kernel), lw_in (by decide +kernel), by decide +kernel⟩
theorem kk_X2_126 : zk_ok RX2 126 yX2_countOrders cX2_countOrders 5 none 1 := by unfold zk_ok; exact ⟨lw_at 450 rfl rfl, lw_in (by decide +kernel), lw_in (by decide +kernel), by decide +kernel⟩
theorem kk_L_9 : zk_ok RL 9 yL_cell cL_cell 2 (some .int) 2 ∧ Cond.static yL_cell ∈ lw_gd := by unfold zk_ok; exact ⟨⟨lw_at 273 rfl rfl, lw_in (by decide +kernel), lw_in (by decide +kernel), by decide +kernel⟩, lw_in (by decide +kernel)⟩
theorem kk_L_21 : zk_ok RL 21 yX0_layer cX0_layer 4 (some .boolean) 3 := by unfold zk_ok; exact ⟨lw_at 101 rfl rfl, lw_in (by decide +kernel), lw_in (by decide +kernel), by decide +kernel⟩
theorem kk_L_25 : zk_ok RL 25 yX2_layer cX2_layer 4 (some .boolean) 3 := by unfold zk_ok; exact ⟨lw_at 351 rfl rfl, lw_in (by decide +kernel), lw_in (by decide +kernel), by decide +kernel⟩
theorem kk_L_26 : zk_ok RL 26 yX0_cover cX0_cover 2 (some .boolean) 1 := by unfold zk_ok; exact ⟨lw_at 114 rfl rfl, lw_in (by decide +kernel), lw_in (by decide +kernel), by decide +kernel⟩
theorem kk_L_30 : zk_ok RL 30 yX2_cover cX2_cover 2 (some .boolean) 1 := by unfold zk_ok; exact ⟨lw_at 362 rfl rfl, lw_in (by decide +kernel), lw_in (by decide +kernel), by decide +kernel⟩
theorem kk_L_31 : zk_ok RL 31 yX0_drain cX0_drain 2 (some .boolean) 1 := by unfold zk_ok; exact ⟨lw_at 118 rfl rfl, lw_in (by decide +kernel), lw_in (by decide +kernel), by decide +kernel⟩
theorem kk_L_34 : zk_ok RL 34 yX2_drain cX2_drain 2 (some .boolean) 1 := by unfold zk_ok; exact ⟨lw_at 366 rfl rfl, lw_in (by decide +kernel), lw_in (by decide +kernel), by decide +kernel⟩
theorem kk_L_35 : zk_ok RL 35 yX0_back cX0_back 2 (some .boolean) 1 := by unfold zk_ok; exact ⟨lw_at 122 rfl rfl, lw_in (by decide +kernel), lw_in (by decide +kernel), by decide +kernel⟩
theorem kk_L_38 : zk_ok RL 38 yX2_back cX2_back 2 (some .boolean) 1 := by unfold zk_ok; exact ⟨lw_at 370 rfl rfl, lw_in (by decide +kernel), lw_in (by decide +kernel), by decide +kernel⟩
theorem kk_L_41 : zk_ok RL 41 yX0_tank cX0_tank 3 (some .boolean) 1 := by unfold zk_ok; exact ⟨lw_at 126 rfl rfl, lw_in (by decide +kernel), lw_in (by decide +kernel), by decide +kernel⟩
theorem kk_L_45 : zk_ok RL 45 yX2_tank cX2_tank 3 (some .boolean) 1 := by unfold zk_ok; exact ⟨lw_at 374 rfl rfl, lw_in (by decide +kernel), lw_in (by decide +kernel), by decide +kernel⟩
theorem kk_L_46 : zk_ok RL 46 yX0_stage cX0_stage 3 (some .int) 2 := by unfold zk_ok; exact ⟨lw_at 131 rfl rfl, lw_in (by decide +kernel), lw_in (by decide +kernel), by decide +kernel⟩
theorem kk_L_50 : zk_ok RL 50 yX2_stage cX2_stage 3 (some .int) 2 := by unfold zk_ok; exact ⟨lw_at 379 rfl rfl, lw_in (by decide +kernel), lw_in (by decide +kernel), by decide +kernel⟩
theorem kk_L_51 : zk_ok RL 51 yX0_rain cX0_rain 3 (some .boolean) 2 := by unfold zk_ok; exact ⟨lw_at 135 rfl rfl, lw_in (by decide +kernel), lw_in (by decide +kernel), by decide +kernel⟩
theorem kk_L_55 : zk_ok RL 55 yX2_rain cX2_rain 3 (some .boolean) 2 := by unfold zk_ok; exact ⟨lw_at 383 rfl rfl, lw_in (by decide +kernel), lw_in (by decide +kernel), by decide +kernel⟩
theorem kk_L_56 : zk_ok RL 56 yX0_storm cX0_storm 7 (some .boolean) 2 := by unfold zk_ok; exact ⟨lw_at 140 rfl rfl, lw_in (by decide +kernel), lw_in (by decide +kernel), by decide +kernel⟩
theorem kk_L_60 : zk_ok RL 60 yX2_storm cX2_storm 7 (some .boolean) 2 := by unfold zk_ok; exact ⟨lw_at 388 rfl rfl, lw_in (by decide +kernel), lw_in (by decide +kernel), by decide +kernel⟩
theorem kk_L_61 : zk_ok RL 61 yX0_run cX0_run 3 (some .int) 1 := by unfold zk_ok; exact ⟨lw_at 151 rfl rfl, lw_in (by decide +kernel), lw_in (by decide +kernel), by decide +kernel⟩
theorem kk_L_65 : zk_ok RL 65 yX2_run cX2_run 3 (some .int) 1 := by unfold zk_ok; exact ⟨lw_at 395 rfl rfl, lw_in (by decide +kernel), lw_in (by decide +kernel), by decide +kernel⟩
theorem kk_L_66 : zk_ok RL 66 yX0_held cX0_held 2 (some .long) 1 := by unfold zk_ok; exact ⟨lw_at 188 rfl rfl, lw_in (by decide +kernel), lw_in (by decide +kernel), by decide +kernel⟩
theorem kk_L_70 : zk_ok RL 70 yX2_held cX2_held 2 (some .long) 1 := by unfold zk_ok; exact ⟨lw_at 411 rfl rfl, lw_in (by decide +kernel), lw_in (by decide +kernel), by decide +kernel⟩
theorem kk_L_71 : zk_ok RL 71 yX0_out cX0_out 2 (some .long) 1 := by unfold zk_ok; exact ⟨lw_at 192 rfl rfl, lw_in (by decide +kernel), lw_in (by decide +kernel), by decide +kernel⟩
theorem kk_L_74 : zk_ok RL 74 yX2_out cX2_out 2 (some .long) 1 := by unfold zk_ok; exact ⟨lw_at 415 rfl rfl, lw_in (by decide +kernel), lw_in (by decide +kernel), by decide +kernel⟩
theorem kk_L_75 : zk_ok RL 75 yX0_balance cX0_balance 4 (some .long) 0 := by unfold zk_ok; exact ⟨lw_at 197 rfl rfl, lw_in (by decide +kernel), lw_in (by decide +kernel), by decide +kernel⟩
theorem kk_L_79 : zk_ok RL 79 yX2_balance cX2_balance 4 (some .long) 0 := by unfold zk_ok; exact ⟨lw_at 420 rfl rfl, lw_in (by decide +kernel), lw_in (by decide +kernel), by decide +kernel⟩
theorem kk_L_80 : zk_ok RL 80 yX0_limit cX0_limit 5 (some .boolean) 2 := by unfold zk_ok; exact ⟨lw_at 201 rfl rfl, lw_in (by decide +kernel), lw_in (by decide +kernel), by decide +kernel⟩
theorem kk_L_84 : zk_ok RL 84 yX2_limit cX2_limit 5 (some .boolean) 2 := by unfold zk_ok; exact ⟨lw_at 424 rfl rfl, lw_in (by decide +kernel), lw_in (by decide +kernel), by decide +kernel⟩
theorem kk_L_85 : zk_ok RL 85 yX0_passed cX0_passed 3 (some .int) 2 := by unfold zk_ok; exact ⟨lw_at 205 rfl rfl, lw_in (by decide +kernel), lw_in (by decide +kernel), by decide +kernel⟩
theorem kk_L_88 : zk_ok RL 88 yX2_passed cX2_passed 10 (some .int) 2 := by unfold zk_ok; exact ⟨lw_at 428 rfl rfl, lw_in (by decide +kernel), lw_in (by decide +kernel), by decide +kernel⟩
theorem kk_L_89 : zk_ok RL 89 yX0_sample cX0_sample 4 (some .int) 3 := by unfold zk_ok; exact ⟨lw_at 217 rfl rfl, lw_in (by decide +kernel), lw_in (by decide +kernel), by decide +kernel⟩
theorem kk_L_93 : zk_ok RL 93 yX2_sample cX2_sample 6 (some .int) 3 := by unfold zk_ok; exact ⟨lw_at 432 rfl rfl, lw_in (by decide +kernel), lw_in (by decide +kernel), by decide +kernel⟩
theorem kk_L_94 : zk_ok RL 94 yX0_trend cX0_trend 2 (some .int) 1 := by unfold zk_ok; exact ⟨lw_at 235 rfl rfl, lw_in (by decide +kernel), lw_in (by decide +kernel), by decide +kernel⟩
theorem kk_L_97 : zk_ok RL 97 yX2_trend cX2_trend 5 (some .int) 1 := by unfold zk_ok; exact ⟨lw_at 441 rfl rfl, lw_in (by decide +kernel), lw_in (by decide +kernel), by decide +kernel⟩
theorem kk_L_98 : zk_ok RL 98 yX0_odds cX0_odds 7 (some .int) 2 := by unfold zk_ok; exact ⟨lw_at 246 rfl rfl, lw_in (by decide +kernel), lw_in (by decide +kernel), by decide +kernel⟩
theorem kk_L_101 : zk_ok RL 101 yX2_odds cX2_odds 17 (some .int) 2 := by unfold zk_ok; exact ⟨lw_at 445 rfl rfl, lw_in (by decide +kernel), lw_in (by decide +kernel), by decide +kernel⟩
end
section
/-! the class's world: addresses q, numbers of ints a (a 0: its own fields), of longs b (b 0: its own fields), n layers -/
abbrev zS : Type := (Nat → Nat → Int32) × (Nat → Nat → Int64) × (Nat → Nat → Int32)
abbrev tyG (g : Nat → ClassId) : List (ClassId × FieldType) := [(g 0, .int), (g 1, .long), (g 2, .object RX1)]
abbrev oL (q : Nat → Nat) (a : Nat → Int32) (b : Nat → Int64) : va_E := .inr (0, [.ref (q 1), .ref (q 2), .ref (q 3), .ref (q 4), .ref (q 5), .ref (q 6), .ref (q 7), .ref (q 8), .ref (q 9), .ref (q 10), .int (a 0), .int (a 1), .int (a 2), .long (b 0), .int (a 3), .int (a 4), .long (b 1), .long (b 2)])
abbrev oW (q : Nat → Nat) (a : Nat → Nat → Int32) (w : Nat) : va_E := .inr (1, [.ref (q (15 + w)), .int (a 11 w), .int (a 12 w)])
abbrev aI (g : Nat → ClassId) (n : Nat) (f : Nat → Int32) : va_E := .inl (g 0, n, .inl f)
abbrev aJ (g : Nat → ClassId) (n : Nat) (f : Nat → Int64) : va_E := .inl (g 1, n, .inr (.inl f))
def wL (g : Nat → ClassId) (q : Nat → Nat) (n : Nat) (a : Nat → Nat → Int32) (b : Nat → Nat → Int64) (v : Nat → Nat → Int32) : va_W :=
  [(q 0, oL q (a 0) (b 0)), (q 1, aJ g n (b 1)), (q 2, aI g n (a 2)), (q 3, aI g n (a 3)), (q 4, aI g 4 (a 4)), (q 5, aI g 4 (a 5)), (q 6, aI g 400 (a 6)), (q 7, aJ g 400 (b 7)), (q 8, aJ g 9 (b 8)), (q 9, .inl (g 2, 4, .inr (.inr (.inr (.inr (fun k => some (q (11 + k)))))))), (q 10, aI g 29 (a 10)),
   (q 11, oW q a 0), (q 12, oW q a 1), (q 13, oW q a 2), (q 14, oW q a 3), (q 15, aI g 8 (v 0)), (q 16, aI g 8 (v 1)), (q 17, aI g 8 (v 2)), (q 18, aI g 8 (v 3))]
theorem zw4 {w : Nat} (h : w < 4) : w = 0 ∨ w = 1 ∨ w = 2 ∨ w = 3 := by omega
theorem wL_w {g : Nat → ClassId} {q : Nat → Nat} {n : Nat} {a : Nat → Nat → Int32} {b : Nat → Nat → Int64} {v : Nat → Nat → Int32} (w : Nat) (h : w < 4) : (wL g q n a b v)[11 + w]? = some (q (11 + w), oW q a w) := by
  rcases zw4 h with rfl | rfl | rfl | rfl <;> rfl
theorem wL_v {g : Nat → ClassId} {q : Nat → Nat} {n : Nat} {a : Nat → Nat → Int32} {b : Nat → Nat → Int64} {v : Nat → Nat → Int32} (w : Nat) (h : w < 4) : (wL g q n a b v)[15 + w]? = some (q (15 + w), aI g 8 (v w)) := by
  rcases zw4 h with rfl | rfl | rfl | rfl <;> rfl
theorem wL_cnt (g : Nat → ClassId) (q : Nat → Nat) (n : Nat) (a : Nat → Nat → Int32) (b : Nat → Nat → Int64) (v : Nat → Nat → Int32) (w : Nat) (x : Int32) (h : w < 4) : (wL g q n a b v).set (11 + w) (q (11 + w), .inr (1, [.ref (q (15 + w)), .int x, .int (a 12 w)])) = wL g q n (va_up a 11 (upd (a 11) w x)) b v := by
  rcases zw4 h with rfl | rfl | rfl | rfl <;> rfl
theorem wL_lst (g : Nat → ClassId) (q : Nat → Nat) (n : Nat) (a : Nat → Nat → Int32) (b : Nat → Nat → Int64) (v : Nat → Nat → Int32) (w : Nat) (x : Int32) (h : w < 4) : (wL g q n a b v).set (11 + w) (q (11 + w), .inr (1, [.ref (q (15 + w)), .int (a 11 w), .int x])) = wL g q n (va_up a 12 (upd (a 12) w x)) b v := by
  rcases zw4 h with rfl | rfl | rfl | rfl <;> rfl
theorem wL_val (g : Nat → ClassId) (q : Nat → Nat) (n : Nat) (a : Nat → Nat → Int32) (b : Nat → Nat → Int64) (v : Nat → Nat → Int32) (w : Nat) (f : Nat → Int32) (h : w < 4) : (wL g q n a b v).set (15 + w) (q (15 + w), aI g 8 f) = wL g q n a b (va_up v w f) := by
  rcases zw4 h with rfl | rfl | rfl | rfl <;> rfl
/-! what the class's methods compute -/
def m_within (v lo hi : Int64) : Bool := decide (lo ≤ v) && decide (v ≤ hi)
def m_parts (x : Int32) : Bool := m_within x.toInt64 0 1000
def m_of (x : Int32) (v : Int64) : Int64 := v * x.toInt64 / 1000
def m_isLayer (n : Nat) (k : Int32) : Bool := m_within k.toInt64 0 (nI n - 1).toInt64
def m_isWell (k : Int32) : Bool := m_within k.toInt64 0 3
def m_days (nd d : Int32) : Bool := m_within d.toInt64 1 100 && decide (nd + d ≤ 400)
def m_max0 (x : Int64) : Int64 := if x < 0 then 0 else x
def m_min (x y : Int64) : Int64 := if y < x then y else x
/-- the water behind k layers, and what goes out of the last of them -/
def m_pd (hs ps : Nat → Int32) (f : Nat → Int64) : Nat → (Nat → Int64) × Int64
  | 0 => (f, 0)
  | k + 1 =>
    let r := m_pd hs ps f k
    let x := r.1 k + r.2
    let o := m_of (ps k) (m_max0 (x - (hs k).toInt64))
    (vp_updL (vp_updL r.1 k x) k (x - o), o)
/-- rain r comes in -/
def m_in (a : Nat → Nat → Int32) (b : Nat → Nat → Int64) (r : Int64) : Nat → Nat → Int64 :=
  va_up (va_up b 1 (vp_updL (b 1) 0 (b 1 0 + (r - m_of (a 0 0) r + b 8 8)))) 8 (vp_updL (vp_updL (b 8) 0 (b 8 0 + r)) 1 (b 8 1 + m_of (a 0 0) r))
/-- x seeped -/
def m_fill (a : Nat → Nat → Int32) (b : Nat → Nat → Int64) (x : Int64) : Nat → Nat → Int64 :=
  let dr := m_of (a 0 1) x
  let fl := b 8 7 + dr
  let ab := m_max0 (fl - b 0 0)
  va_up b 8 (vp_updL (vp_updL (vp_updL (vp_updL (b 8) 2 (b 8 2 + x)) 3 (b 8 3 + (x - dr))) 4 (b 8 4 + ab)) 7 (fl - ab))
/-- the sums and what flows behind k stages -/
def m_cl (rs ks : Nat → Int32) (f : Nat → Int64) : Nat → (Nat → Int64) × Int64
  | 0 => (vp_updL f 7 0, f 7)
  | k + 1 =>
    let r := m_cl rs ks f k
    let t := m_min (rs k).toInt64 r.2
    let kp := m_of (ks k) t
    (vp_updL (vp_updL r.1 7 (r.1 7 + (r.2 - t))) 5 (r.1 5 + kp), t - kp)
def m_clean (sc : Nat) (a : Nat → Nat → Int32) (b : Nat → Nat → Int64) : Int64 × (Nat → Nat → Int64) :=
  if sc = 0 then (0, b) else ((m_cl (a 4) (a 5) (b 8) sc).2, va_up b 8 (m_cl (a 4) (a 5) (b 8) sc).1)
def m_part (a : Nat → Nat → Int32) (b : Nat → Nat → Int64) (x : Int64) : Int64 × (Nat → Nat → Int64) :=
  (x - m_of (a 0 2) x, va_up b 8 (vp_updL (vp_updL (b 8) 8 (m_of (a 0 2) x)) 6 (b 8 6 + (x - m_of (a 0 2) x))))
/-- a day: the longs behind it -/
def m_day (n sc : Nat) (a : Nat → Nat → Int32) (b : Nat → Nat → Int64) (d : Nat) : Nat → Nat → Int64 :=
  let b1 := m_in a b (a 6 d).toInt64
  let r := m_pd (a 2) (a 3) (b1 1) n
  let b3 := m_fill a (va_up b1 1 r.1) r.2
  let c := m_clean sc a b3
  let e := m_part a c.2 c.1
  va_up e.2 7 (vp_updL (e.2 7) d e.1)
def m_run (n sc : Nat) (a : Nat → Nat → Int32) (b : Nat → Nat → Int64) (d : Nat) : Nat → Nat → Nat → Int64
  | 0 => b
  | i + 1 => m_day n sc a (m_run n sc a b d i) (d + i)
/-- the seeds and the rains of i days of a storm -/
def m_st (f : Nat → Int32) (x : Int64) (d : Nat) : Nat → Int64 × (Nat → Int32)
  | 0 => (x, f)
  | i + 1 =>
    let r := m_st f x d i
    let y := r.1 * 6364136223846793005 + 1442695040888963407
    (y, upd r.2 (d + i) (y.toUInt64 >>> ((54 : Int32).toInt64.toUInt64 &&& Int64.toUInt64 63)).toInt64.toInt32)
/-- what is left when i layers' water is taken off -/
def m_bal (f : Nat → Int64) (x : Int64) : Nat → Int64
  | 0 => x
  | i + 1 => m_bal f x i - f i
/-- days from i on, t of them, so many seen before -/
def m_dp (f : Nat → Int64) (lim : Int64) (k : Int32) : Nat → Nat → Int32 → Int32
  | 0, _, _ => -1
  | t + 1, i, z => if f i ≤ lim then m_dp f lim k t (i + 1) z else if z = k then nI i else m_dp f lim k t (i + 1) (z + 1)
def m_mp (f : Nat → Int64) (lim : Int64) (k : Int32) : Nat → Nat → Int64 → Int32 → Int32
  | 0, _, _, _ => -1
  | t + 1, i, x, z => if x + f i ≤ lim * (nI (i + 1)).toInt64 then m_mp f lim k t (i + 1) (x + f i) z else if z = k then nI i else m_mp f lim k t (i + 1) (x + f i) (z + 1)
/-! rows on these -/
theorem m_w1 {v lo hi : Int64} (h1 : ¬ v < lo) (h2 : ¬ hi < v) : (1 : Int32) = zb (m_within v lo hi) := by
  have e1 : lo ≤ v := by rw [Int64.le_iff_toInt_le]; rw [Int64.lt_iff_toInt_lt] at h1; omega
  have e2 : v ≤ hi := by rw [Int64.le_iff_toInt_le]; rw [Int64.lt_iff_toInt_lt] at h2; omega
  simp [zb, m_within, e1, e2]
theorem m_w2 {v lo hi : Int64} (h1 : v < lo) : (0 : Int32) = zb (m_within v lo hi) := by
  have e1 : ¬ lo ≤ v := by rw [Int64.le_iff_toInt_le]; rw [Int64.lt_iff_toInt_lt] at h1; omega
  simp [zb, m_within, e1]
theorem m_w3 {v lo hi : Int64} (h1 : hi < v) : (0 : Int32) = zb (m_within v lo hi) := by
  have e1 : ¬ v ≤ hi := by rw [Int64.le_iff_toInt_le]; rw [Int64.lt_iff_toInt_lt] at h1; omega
  simp [zb, m_within, e1]
theorem m_wi {v lo hi : Int64} : m_within v lo hi = true ↔ lo.toInt ≤ v.toInt ∧ v.toInt ≤ hi.toInt := by
  simp [m_within, Int64.le_iff_toInt_le]
theorem m_d1 {nd d : Int32} (h : m_within d.toInt64 1 100 = false) : (0 : Int32) = zb (m_days nd d) := by simp [zb, m_days, h]
theorem m_d2 {nd d : Int32} (h : 400 < nd + d) : (0 : Int32) = zb (m_days nd d) := by
  have e : ¬ nd + d ≤ 400 := by rw [Int32.le_iff_toInt_le]; rw [Int32.lt_iff_toInt_lt] at h; omega
  simp [zb, m_days, e]
theorem m_d3 {nd d : Int32} (h : m_within d.toInt64 1 100 = true) (h2 : ¬ 400 < nd + d) : (1 : Int32) = zb (m_days nd d) := by
  have e : nd + d ≤ 400 := by rw [Int32.le_iff_toInt_le]; rw [Int32.lt_iff_toInt_lt] at h2; omega
  simp [zb, m_days, h, e]
theorem m_i2l (x : Int32) : x.toInt64.toInt = x.toInt := Int32.toInt_toInt64 x
/-- a number between 0 and m: it is one -/
theorem m_num {x : Int32} {m : Nat} (h0 : 0 ≤ x.toInt) (h1 : x.toInt ≤ (m : Int)) : ∃ k : Nat, k ≤ m ∧ x = nI k := by
  have hx : ¬ x < 0 := by
    rw [Int32.lt_iff_toInt_lt]
    have : (0 : Int32).toInt = 0 := by decide
    omega
  obtain ⟨j, hj, rfl⟩ := nI_of hx
  rw [nI_toInt hj] at h1
  exact ⟨j, by omega, rfl⟩
theorem m_days_k {d : Nat} {x : Int32} (hd : d ≤ 400) (h : m_days (nI d) x = true) : ∃ k : Nat, 1 ≤ k ∧ k ≤ 100 ∧ d + k ≤ 400 ∧ x = nI k := by
  unfold m_days at h
  rw [Bool.and_eq_true, m_wi, m_i2l, decide_eq_true_eq] at h
  have e1 : (1 : Int64).toInt = 1 := by decide
  have e2 : (100 : Int64).toInt = 100 := by decide
  rw [e1, e2] at h
  obtain ⟨k, hk, rfl⟩ := m_num (x := x) (m := 100) (by omega) (by omega)
  have h3 := h.2
  rw [nI_add, Int32.le_iff_toInt_le, nI_toInt (by omega)] at h3
  have e3 : (400 : Int32).toInt = 400 := by decide
  have h4 := h.1
  rw [nI_toInt (by omega)] at h4
  exact ⟨k, by omega, hk, by omega, rfl⟩
theorem m_layer_k {n : Nat} {x : Int32} (hn : 1 ≤ n ∧ n ≤ 6) (h : m_isLayer n x = true) : ∃ k : Nat, k < n ∧ x = nI k := by
  unfold m_isLayer at h
  rw [m_wi, m_i2l, m_i2l] at h
  have e1 : (0 : Int64).toInt = 0 := by decide
  obtain ⟨j, rfl⟩ : ∃ j, n = j + 1 := ⟨n - 1, by omega⟩
  rw [nI_pred, nI_toInt (by omega), e1] at h
  obtain ⟨k, hk, rfl⟩ := m_num (x := x) (m := j) (by omega) (by omega)
  exact ⟨k, by omega, rfl⟩
theorem m_rng {x : Int32} {m : Nat} {lo hi : Int64} (hlo : lo.toInt = 0) (hhi : hi.toInt = (m : Int)) (h : m_within x.toInt64 lo hi = true) : ∃ k : Nat, k ≤ m ∧ x = nI k := by
  rw [m_wi, m_i2l, hlo, hhi] at h
  exact m_num h.1 h.2
theorem m_nd0 {a : Nat → Nat → Int32} {d : Nat} (h : a 0 4 = nI d) : va_up a 0 (upd (a 0) 4 (nI (d + 0))) = a := by
  funext i j
  unfold va_up upd
  by_cases h0 : i = 0
  · subst h0
    by_cases h4 : j = 4
    · subst h4; simp [h]
    · simp [h4]
  · simp [h0]
/-! wells -/
def m_cmp (x y : Int32) : Int32 := if x < y then -1 else if x = y then 0 else 1
def m_has (f : Nat → Int32) (v : Int32) (c : Nat) : Bool := (List.range c).any (fun i => decide (f i = v))
def m_ri (f : Nat → Int32) (j : Nat) (z : Int32) : Nat → Int32
  | 0 => z
  | i + 1 => m_ri f j z i + m_cmp (f j) (f i)
def m_ro (f : Nat → Int32) : Nat → Int32
  | 0 => 0
  | j + 1 => m_ri f (1 + j) (m_ro f j) (1 + j)
def m_oo : Nat → Int32
  | 0 => 1
  | i + 1 => m_oo i * nI (2 + i)
def m_mx1 (x : Int32) : Int32 := if 1 < x then x else 1
def m_abs (x : Int32) : Int32 := if 0 ≤ x then x else 0 - x
def m_gcd : Nat → Int32 → Int32 → Int32
  | 0, x, _ => m_mx1 x
  | t + 1, x, y => if y = 0 then m_mx1 x else m_gcd t y (x - x / y * y)
def m_fil (v : Int32) (f : Nat → Int32) : Nat → Nat → Int32
  | 0 => f
  | i + 1 => upd (m_fil v f i) i v
def m_av1 (f : Nat → Int32) : Nat → Nat → Int32
  | 0 => f
  | i + 1 => upd (m_av1 f i) (1 + i) (m_av1 f i (1 + i) + m_av1 f i i)
def m_av2 (z : Nat) (f : Nat → Int32) : Nat → Nat → Int32
  | 0 => f
  | i + 1 => upd (m_av2 z f i) (28 - i) (m_av2 z f i (28 - i) - m_av2 z f i (28 - i - z))
def m_av (z : Nat) (f : Nat → Int32) : Nat → Int32 := m_av2 z (m_av1 f 28) (29 - z)
def m_co (f : Nat → Int32) : Nat → Nat → Int32
  | 0 => upd (m_fil 0 f 29) 0 1
  | i + 1 => m_av (2 + i) (m_co f i)
def m_far (f : Nat → Int32) (P : Int32) (tr : Int32) : Nat → Int32
  | 0 => 0
  | i + 1 => if m_abs (P - 2 * nI i) < m_abs tr then m_far f P tr i else m_far f P tr i + f i
theorem m_has_t {f : Nat → Int32} {v : Int32} {c i : Nat} (hi : i < c) (h : f i = v) : (1 : Int32) = zb (m_has f v c) := by
  have e : m_has f v c = true := by
    unfold m_has
    rw [List.any_eq_true]
    exact ⟨i, List.mem_range.mpr hi, by simp [h]⟩
  rw [e]; rfl
theorem m_has_f {f : Nat → Int32} {v : Int32} {c : Nat} (h : ∀ j, j < c → ¬ f j = v) : (0 : Int32) = zb (m_has f v c) := by
  have e : m_has f v c = false := by
    unfold m_has
    rw [List.any_eq_false]
    intro j hj
    simp [h j (List.mem_range.mp hj)]
  rw [e]; rfl
theorem m_rain_k {d : Nat} {x : Int32} (hd : d ≤ 400) (h : m_within x.toInt64 (nI d).toInt64 399 = true) : ∃ k : Nat, d ≤ k ∧ k ≤ 399 ∧ x = nI k := by
  rw [m_wi, m_i2l, m_i2l, nI_toInt (by omega)] at h
  have e : (399 : Int64).toInt = 399 := by decide
  obtain ⟨k, hk, rfl⟩ := m_num (x := x) (m := 399) (by omega) (by omega)
  rw [nI_toInt (by omega)] at h
  exact ⟨k, by omega, hk, rfl⟩
/-- the odds' part y (0: above) of a well's c values f, by the class's way -/
def m_odds (g f : Nat → Int32) (c : Nat) (y : Int32) : Int32 :=
  let P := c * (c - 1) / 2
  let far := m_far (m_co g (c - 1)) (nI P) (m_ro f (c - 1)) (P + 1)
  let all := m_oo (c - 1)
  (if y = 0 then far else all) / m_gcd 64 all far
theorem m_pairs {c : Nat} (h : c ≤ 8) : ∃ P : Nat, nI c * (nI c - 1) / 2 = nI P ∧ P ≤ 28 ∧ P = c * (c - 1) / 2 := by
  have key : ∀ c : Fin 9, nI c.val * (nI c.val - 1) / 2 = nI (c.val * (c.val - 1) / 2) ∧ c.val * (c.val - 1) / 2 ≤ 28 := by decide +kernel
  have k := key ⟨c, by omega⟩
  exact ⟨_, k.1, k.2, rfl⟩
theorem m_mx1_ne (x : Int32) : ¬ m_mx1 x = 0 := by
  unfold m_mx1
  by_cases h : 1 < x
  · rw [if_pos h]
    intro h2
    rw [h2] at h
    exact absurd h (by decide)
  · rw [if_neg h]
    decide
theorem m_gcd_ne : ∀ (t : Nat) (x y : Int32), ¬ m_gcd t x y = 0
  | 0, x, _ => m_mx1_ne x
  | t + 1, x, y => by
    unfold m_gcd
    by_cases h : y = 0
    · rw [if_pos h]; exact m_mx1_ne x
    · rw [if_neg h]; exact m_gcd_ne t _ _
/-! a new object -/
def m_n (x : Int32) : Nat := if m_within x.toInt64 1 6 = true then x.toNatClampNeg else 1
def m_a0 (n : Nat) : Nat → Nat → Int32 := fun i => if i = 3 then m_fil 1000 (fun _ => 0) n else if i = 12 then fun _ => -1 else fun _ => 0
def m_b0 : Nat → Nat → Int64 := fun i j => if i = 0 then (if j = 0 then 0 else -1) else 0
theorem m_n_k {x : Int32} (h : m_within x.toInt64 1 6 = true) : ∃ k : Nat, (1 ≤ k ∧ k ≤ 6) ∧ m_n x = k ∧ x = nI k := by
  have h2 := h
  rw [m_wi, m_i2l] at h2
  have e1 : (1 : Int64).toInt = 1 := by decide
  have e2 : (6 : Int64).toInt = 6 := by decide
  rw [e1, e2] at h2
  obtain ⟨k, hk, rfl⟩ := m_num (x := x) (m := 6) (by omega) (by omega)
  rw [nI_toInt (by omega)] at h2
  refine ⟨k, by omega, ?_, rfl⟩
  unfold m_n
  rw [if_pos h, nI_clamp (by omega)]
theorem m_cmp1 {x y : Int32} (h : ¬ y ≤ x) : (-1 : Int32) = m_cmp x y := by
  have e : x < y := by rw [Int32.lt_iff_toInt_lt]; rw [Int32.le_iff_toInt_le] at h; omega
  unfold m_cmp
  rw [if_pos e]
theorem m_cmp2 {x y : Int32} (h : y ≤ x) (h2 : x = y) : (0 : Int32) = m_cmp x y := by
  have e : ¬ x < y := by rw [Int32.lt_iff_toInt_lt]; rw [Int32.le_iff_toInt_le] at h; omega
  unfold m_cmp
  rw [if_neg e, if_pos h2]
theorem m_cmp3 {x y : Int32} (h : y ≤ x) (h2 : ¬ x = y) : (1 : Int32) = m_cmp x y := by
  have e : ¬ x < y := by rw [Int32.lt_iff_toInt_lt]; rw [Int32.le_iff_toInt_le] at h; omega
  unfold m_cmp
  rw [if_neg e, if_neg h2]
end
section
def rm_compare : Room := { frames := 0, cells := 0, slots := 0, locals := 0 }
set_option maxHeartbeats 4000000 in
set_option maxRecDepth 100000 in
theorem c_compare (l : Launch) (D : va_G) (tys : List (ClassId × FieldType)) (x y : Int32) : zc_i l D tys yJ_compare cJ_compare 2 (some .int) rm_compare [.int x, .int y] [] (fun (r : Int32) (u : Unit) => r = m_cmp x y) (fun _ => []) 0 0 := by
  refine zi_of (by decide) (Nat.le_of_ble_eq_true rfl) rfl ?_
  intro p e s m args below meth cd_ A Q ls C0 hnm hP hD hS hl hret
  obtain ⟨hx, hb, hr, hml, hlocks, hown, hts, hK, hA, hN⟩ := id C0
  have hl : lv_has ls 2 [(0, .int x), (1, .int y)] := hl
  refine lv_iload_n hx hb dJ_compare_0 rfl (lv_at hl 0 rfl) ?_
  refine lv_iload_n hx hb dJ_compare_1 rfl (lv_at hl 1 rfl) ?_
  refine lv_icmp_ge (tgt := 9) hx hb dJ_compare_2 (by decide) (fun c_2 => ?_) (fun c_2 => ?_)
  · -- jump at 2
    refine lv_iload_n hx hb dJ_compare_9 rfl (lv_at hl 0 rfl) ?_
    refine lv_iload_n hx hb dJ_compare_10 rfl (lv_at hl 1 rfl) ?_
    refine lv_icmp_ne (tgt := 18) hx hb dJ_compare_11 (by decide) (fun c_11 => ?_) (fun c_11 => ?_)
    · -- jump at 11
      refine lv_iconst (v := 1) hx hb dJ_compare_18 (by decide) ?_
      exact hret 1 () _ _ _ _ _ _ rfl (by first | exact m_cmp1 c_2 | exact m_cmp2 c_2 c_11 | exact m_cmp3 c_2 c_11) hP hD hS (Nat.le_of_ble_eq_true rfl) (Nat.le_of_ble_eq_true rfl) dJ_compare_19
    · -- on at 11
      refine lv_iconst (v := 0) hx hb dJ_compare_14 (by decide) ?_
      refine lv_goto (tgt := 19) hx hb dJ_compare_15 (by decide) ?_
      exact hret 0 () _ _ _ _ _ _ rfl (by first | exact m_cmp1 c_2 | exact m_cmp2 c_2 c_11 | exact m_cmp3 c_2 c_11) hP hD hS (Nat.le_of_ble_eq_true rfl) (Nat.le_of_ble_eq_true rfl) dJ_compare_19
  · -- on at 2
    refine lv_iconst (v := (-1)) hx hb dJ_compare_5 (by decide) ?_
    refine lv_goto (tgt := 19) hx hb dJ_compare_6 (by decide) ?_
    exact hret (-1) () _ _ _ _ _ _ rfl (by first | exact m_cmp1 c_2 | exact m_cmp2 c_2 c_11 | exact m_cmp3 c_2 c_11) hP hD hS (Nat.le_of_ble_eq_true rfl) (Nat.le_of_ble_eq_true rfl) dJ_compare_19
def rm_fill : Room := { frames := 0, cells := 0, slots := 0, locals := 0 }
set_option maxHeartbeats 4000000 in
set_option maxRecDepth 100000 in
theorem c_fill (l : Launch) (D : va_G) (tys : List (ClassId × FieldType)) (t0 : Nat) (cA : ClassId) (ht0 : tys[t0]? = some (cA, .int)) (x n : Nat) (hn : n < 2 ^ 31) (f : Nat → Int32) (z : Int32) : zc_v l D tys yJ_fill cJ_fill 4 none rm_fill [.ref x, .int z] [(x, .inl (cA, n, .inl f))] (fun (u : Unit) => True) (fun _ => [(x, .inl (cA, n, .inl (m_fil z f n)))]) 0 0 := by
  refine zv_of (by decide) (Nat.le_of_ble_eq_true rfl) rfl ?_
  intro p e s m args below meth cd_ A Q ls C0 hnm hP hD hS hl hret
  obtain ⟨hx, hb, hr, hml, hlocks, hown, hts, hK, hA, hN⟩ := id C0
  have hl : lv_has ls 4 [(0, .ref x), (1, .int z)] := hl
  refine lv_iconst (v := 0) hx hb dJ_fill_0 (by decide) ?_
  refine lv_istore_n (lv' := [(2, .int 0), (0, .ref x), (1, .int z)]) hx hb dJ_fill_1 rfl hl (by decide) rfl (fun ls hl => ?_)
  refine lv_aload_n hx hb dJ_fill_2 rfl (lv_at hl 1 rfl) ?_
  refine va_alen (v := nI n) hx hb hK hP 0 t0 rfl ht0 rfl dJ_fill_3 ?_
  refine lv_istore_n (lv' := [(3, .int (nI n)), (2, .int 0), (0, .ref x), (1, .int z)]) hx hb dJ_fill_4 rfl hl (by decide) rfl (fun ls hl => ?_)
  have lp_5 : ∀ (t_5 i : Nat) , i + t_5 = n → ∀ (H : Heap) (locs : List Loc) (ls : Array Slot), va_P D vwCl ([(x, .inl (cA, n, .inl (m_fil z f i)))]) H → va_D A ([(x, .inl (cA, n, .inl (m_fil z f i)))]) → va_S A s.heap H locs → lv_has ls 4 [(2, .int (nI i)), (0, .ref x), (1, .int z), (3, .int (nI n))] → W p l e rm_fill s m args below meth cd_ H locs 0 0 Q (F0 m 5 ls []) := by
    intro t_5
    induction t_5 with
    | zero =>
      intro i hi_5 H locs ls hP hD hS hl
      obtain rfl : n = i := by omega
      refine lv_iload_n hx hb dJ_fill_5 rfl (lv_at hl 0 rfl) ?_
      refine lv_iload_n hx hb dJ_fill_6 rfl (lv_at hl 3 rfl) ?_
      refine lv_icmp_ge (tgt := 20) hx hb dJ_fill_7 (by decide) (fun _ => ?_) (fun c_7 => absurd (nI_le (Nat.le_refl _) (by omega)) c_7)
      exact hret () _ _ _ _ _ _ trivial hP hD hS (Nat.le_of_ble_eq_true rfl) (Nat.le_of_ble_eq_true rfl) dJ_fill_20
    | succ t_5 ih_5 =>
      intro i hi_5 H locs ls hP hD hS hl
      refine lv_iload_n hx hb dJ_fill_5 rfl (lv_at hl 0 rfl) ?_
      refine lv_iload_n hx hb dJ_fill_6 rfl (lv_at hl 3 rfl) ?_
      refine lv_icmp_ge (tgt := 20) hx hb dJ_fill_7 (by decide) (fun c_7 => absurd c_7 (nI_ge (by omega) (by omega))) (fun _ => ?_)
      refine lv_aload_n hx hb dJ_fill_10 rfl (lv_at hl 1 rfl) ?_
      refine lv_iload_n hx hb dJ_fill_11 rfl (lv_at hl 0 rfl) ?_
      refine lv_iload_n hx hb dJ_fill_12 rfl (lv_at hl 2 rfl) ?_
      refine za_iast (k := i) (x := z) (f := (m_fil z f i)) hx hb hK hP hD hS 0 t0 rfl ht0 rfl (by omega) (by omega) dJ_fill_13 (fun H locs hP hD hS => ?_)
      have hP : va_P D vwCl ([(x, .inl (cA, n, .inl (upd (m_fil z f i) i z)))]) H := hP
      have hD : va_D A ([(x, .inl (cA, n, .inl (upd (m_fil z f i) i z)))]) := hD
      refine lv_iinc (v := nI (i + 1)) (lv' := [(2, .int (nI (i + 1))), (0, .ref x), (1, .int z), (3, .int (nI n))]) hx hb dJ_fill_14 hl (k := 0) rfl (nI_1 i) (by decide) rfl (fun ls hl => ?_)
      refine lv_goto (tgt := 5) hx hb dJ_fill_17 (by decide) ?_
      have hP : va_P D vwCl ([(x, .inl (cA, n, .inl (m_fil z f (i + 1))))]) _ := hP
      have hD : va_D A ([(x, .inl (cA, n, .inl (m_fil z f (i + 1))))]) := hD
      have hl : lv_has ls 4 [(2, .int (nI (i + 1))), (0, .ref x), (1, .int z), (3, .int (nI n))] := lv_sub hl [0, 1, 2, 3] rfl
      exact ih_5 (i + 1)  (by omega)  _ _ _ hP hD hS hl
  exact lp_5 (n - 0) 0  (by omega)  _ _ _ hP hD hS (lv_sub hl [1, 2, 3, 0] rfl)
end
section
def rm_within : Room := { frames := 0, cells := 0, slots := 0, locals := 0 }
set_option maxHeartbeats 4000000 in
set_option maxRecDepth 100000 in
/-- within(v, lo, hi) -/
theorem c_within (l : Launch) (D : va_G) (tys : List (ClassId × FieldType)) (v lo hi : Int64) : zc_i l D tys yX0_within cX0_within 6 (some .boolean) rm_within [.long v, .long lo, .long hi] ([]) (fun (r : Int32) (u : Unit) => r = zb (m_within v lo hi)) (fun _ => []) 0 0 := by
  refine zi_of (by decide) (Nat.le_of_ble_eq_true rfl) rfl ?_
  intro p e s m args below meth cd_ A Q ls C0 hnm hP hD hS hl hret
  obtain ⟨hx, hb, hr, hml, hlocks, hown, hts, hK, hA, hN⟩ := id C0
  have hl : lv_has ls 6 [(0, .long v), (2, .long lo), (4, .long hi)] := hl
  refine lv_lload_n hx hb dX0_within_0 rfl (lv_at hl 0 rfl) ?_
  refine lv_lload_n hx hb dX0_within_1 rfl (lv_at hl 1 rfl) ?_
  refine zl_lt (tgt := 17) hx hb dX0_within_2 dX0_within_3 (by decide) (fun c_2 => ?_) (fun c_2 => ?_)
  · -- jump at 2
    refine lv_iconst (v := 0) hx hb dX0_within_17 (by decide) ?_
    exact hret 0 () _ _ _ _ _ _ rfl (by first | exact m_w1 c_2 c_9 | exact m_w2 c_2 | exact m_w3 c_9) hP hD hS (Nat.le_of_ble_eq_true rfl) (Nat.le_of_ble_eq_true rfl) dX0_within_18
  · -- on at 2
    refine lv_lload_n hx hb dX0_within_6 rfl (lv_at hl 0 rfl) ?_
    refine lv_lload hx hb dX0_within_7 (lv_at hl 2 rfl) ?_
    refine zl_gt (tgt := 17) hx hb dX0_within_9 dX0_within_10 (by decide) (fun c_9 => ?_) (fun c_9 => ?_)
    · -- jump at 9
      refine lv_iconst (v := 0) hx hb dX0_within_17 (by decide) ?_
      exact hret 0 () _ _ _ _ _ _ rfl (by first | exact m_w1 c_2 c_9 | exact m_w2 c_2 | exact m_w3 c_9) hP hD hS (Nat.le_of_ble_eq_true rfl) (Nat.le_of_ble_eq_true rfl) dX0_within_18
    · -- on at 9
      refine lv_iconst (v := 1) hx hb dX0_within_13 (by decide) ?_
      refine lv_goto (tgt := 18) hx hb dX0_within_14 (by decide) ?_
      exact hret 1 () _ _ _ _ _ _ rfl (by first | exact m_w1 c_2 c_9 | exact m_w2 c_2 | exact m_w3 c_9) hP hD hS (Nat.le_of_ble_eq_true rfl) (Nat.le_of_ble_eq_true rfl) dX0_within_18
def rm_isParts : Room := { frames := 1, cells := 0, slots := 0, locals := 25 }
set_option maxHeartbeats 4000000 in
set_option maxRecDepth 100000 in
theorem c_isParts (l : Launch) (D : va_G) (tys : List (ClassId × FieldType)) (x : Int32) : zc_i l D tys yX0_isParts cX0_isParts 1 (some .boolean) rm_isParts [.int x] ([]) (fun (r : Int32) (u : Unit) => r = zb (m_parts x)) (fun _ => []) 0 0 := by
  refine zi_of (by decide) (Nat.le_of_ble_eq_true rfl) rfl ?_
  intro p e s m args below meth cd_ A Q ls C0 hnm hP hD hS hl hret
  obtain ⟨hx, hb, hr, hml, hlocks, hown, hts, hK, hA, hN⟩ := id C0
  have hl : lv_has ls 1 [(0, .int x)] := hl
  refine lv_iload_n hx hb dX0_isParts_0 rfl (lv_at hl 0 rfl) ?_
  refine lv_i2l (v := x.toInt64) hx hb dX0_isParts_1 rfl ?_
  refine lv_lconst (v := 0) hx hb dX0_isParts_2 (by decide) ?_
  refine lv_ldc2 (v := 1000) hx hb hown (hts _ kc_X0_145) dX0_isParts_3 ?_
  refine zk_pi (rest := []) C0 hP hD hS (c_within l D tys x.toInt64 (0 : Int64) (1000 : Int64)) kk_X0_46 hl.1 rfl rfl (Nat.le_of_ble_eq_true rfl) ⟨(Nat.le_of_ble_eq_true rfl), (Nat.le_of_ble_eq_true rfl)⟩ rfl rfl ⟨(Nat.le_of_ble_eq_true rfl), (Nat.le_of_ble_eq_true rfl)⟩ dX0_isParts_6 (fun r_6 H locs hw_6 hP hS => ?_)
  obtain rfl := hw_6
  exact hret (zb (m_within x.toInt64 (0 : Int64) (1000 : Int64))) () _ _ _ _ _ _ (zb_n _) rfl hP hD hS (Nat.le_of_ble_eq_true rfl) (Nat.le_of_ble_eq_true rfl) dX0_isParts_9
def rm_isWell : Room := { frames := 1, cells := 0, slots := 0, locals := 25 }
set_option maxHeartbeats 4000000 in
set_option maxRecDepth 100000 in
theorem c_isWell (l : Launch) (D : va_G) (tys : List (ClassId × FieldType)) (x : Int32) : zc_i l D tys yX0_isWell cX0_isWell 1 (some .boolean) rm_isWell [.int x] ([]) (fun (r : Int32) (u : Unit) => r = zb (m_isWell x)) (fun _ => []) 0 0 := by
  refine zi_of (by decide) (Nat.le_of_ble_eq_true rfl) rfl ?_
  intro p e s m args below meth cd_ A Q ls C0 hnm hP hD hS hl hret
  obtain ⟨hx, hb, hr, hml, hlocks, hown, hts, hK, hA, hN⟩ := id C0
  have hl : lv_has ls 1 [(0, .int x)] := hl
  refine lv_iload_n hx hb dX0_isWell_0 rfl (lv_at hl 0 rfl) ?_
  refine lv_i2l (v := x.toInt64) hx hb dX0_isWell_1 rfl ?_
  refine lv_lconst (v := 0) hx hb dX0_isWell_2 (by decide) ?_
  refine lv_ldc2 (v := 3) hx hb hown (hts _ kc_X0_147) dX0_isWell_3 ?_
  refine zk_pi (rest := []) C0 hP hD hS (c_within l D tys x.toInt64 (0 : Int64) (3 : Int64)) kk_X0_46 hl.1 rfl rfl (Nat.le_of_ble_eq_true rfl) ⟨(Nat.le_of_ble_eq_true rfl), (Nat.le_of_ble_eq_true rfl)⟩ rfl rfl ⟨(Nat.le_of_ble_eq_true rfl), (Nat.le_of_ble_eq_true rfl)⟩ dX0_isWell_6 (fun r_6 H locs hw_6 hP hS => ?_)
  obtain rfl := hw_6
  exact hret (zb (m_within x.toInt64 (0 : Int64) (3 : Int64))) () _ _ _ _ _ _ (zb_n _) rfl hP hD hS (Nat.le_of_ble_eq_true rfl) (Nat.le_of_ble_eq_true rfl) dX0_isWell_9
def rm_partsOf : Room := { frames := 0, cells := 0, slots := 0, locals := 0 }
set_option maxHeartbeats 4000000 in
set_option maxRecDepth 100000 in
theorem c_partsOf (l : Launch) (D : va_G) (tys : List (ClassId × FieldType)) (x : Int32) (v : Int64) : zc_l l D tys yX0_partsOf cX0_partsOf 3 (some .long) rm_partsOf [.int x, .long v] ([]) (fun (r : Int64) (u : Unit) => r = m_of x v) (fun _ => []) 0 0 := by
  refine zl_of (by decide) (Nat.le_of_ble_eq_true rfl) rfl ?_
  intro p e s m args below meth cd_ A Q ls C0 hnm hP hD hS hl hret
  obtain ⟨hx, hb, hr, hml, hlocks, hown, hts, hK, hA, hN⟩ := id C0
  have hl : lv_has ls 3 [(0, .int x), (1, .long v)] := hl
  refine lv_lload_n hx hb dX0_partsOf_0 rfl (lv_at hl 1 rfl) ?_
  refine lv_iload_n hx hb dX0_partsOf_1 rfl (lv_at hl 0 rfl) ?_
  refine lv_i2l (v := x.toInt64) hx hb dX0_partsOf_2 rfl ?_
  refine lv_lmul hx hb dX0_partsOf_3 ?_
  refine lv_ldc2 (v := 1000) hx hb hown (hts _ kc_X0_145) dX0_partsOf_4 ?_
  refine lv_ldiv hx hb dX0_partsOf_7 (by decide) ?_
  exact hret ((v * x.toInt64) / 1000) () _ _ _ _ _ _ rfl hP hD hS (Nat.le_of_ble_eq_true rfl) (Nat.le_of_ble_eq_true rfl) dX0_partsOf_8
def rm_isLayer : Room := { frames := 1, cells := 0, slots := 0, locals := 25 }
set_option maxHeartbeats 4000000 in
set_option maxRecDepth 100000 in
theorem c_isLayer (l : Launch) (D : va_G) (g : Nat → ClassId) (q : Nat → Nat) (n : Nat) (a : Nat → Nat → Int32) (b : Nat → Nat → Int64) (v : Nat → Nat → Int32) (x : Int32) : zc_i l D (tyG g) yX0_isLayer cX0_isLayer 2 (some .boolean) rm_isLayer [.ref (q 0), .int x] (wL g q n a b v) (fun (r : Int32) (u : Unit) => r = zb (m_isLayer n x)) (fun _ => wL g q n a b v) 0 0 := by
  refine zi_of (by decide) (Nat.le_of_ble_eq_true rfl) rfl ?_
  intro p e s m args below meth cd_ A Q ls C0 hnm hP hD hS hl hret
  obtain ⟨hx, hb, hr, hml, hlocks, hown, hts, hK, hA, hN⟩ := id C0
  have hl : lv_has ls 2 [(0, .ref (q 0)), (1, .int x)] := hl
  refine lv_iload_n hx hb dX0_isLayer_0 rfl (lv_at hl 1 rfl) ?_
  refine lv_i2l (v := x.toInt64) hx hb dX0_isLayer_1 rfl ?_
  refine lv_lconst (v := 0) hx hb dX0_isLayer_2 (by decide) ?_
  refine lv_aload_n hx hb dX0_isLayer_3 rfl (lv_at hl 0 rfl) ?_
  refine va_get (D := D) (ci := 0) (v := .ref (q 1)) (C := RX0) (T := TX0) (N := 18) hx hb hts iw_X0 hown hK hP 0 rfl rfl 0 (by decide) (hts _ kf_X0_50) (fun _ h9 => h9) rfl dX0_isLayer_4 ?_
  refine va_alen (v := nI n) hx hb hK hP 1 1 rfl rfl rfl dX0_isLayer_7 ?_
  refine lv_iconst (v := 1) hx hb dX0_isLayer_8 (by decide) ?_
  refine lv_isub hx hb dX0_isLayer_9 ?_
  refine lv_i2l (v := ((nI n) - 1).toInt64) hx hb dX0_isLayer_10 rfl ?_
  refine zk_pi (rest := []) C0 hP hD hS (c_within l D (tyG g) x.toInt64 (0 : Int64) (((nI n) - 1).toInt64)) kk_X0_46 hl.1 rfl rfl (Nat.le_of_ble_eq_true rfl) ⟨(Nat.le_of_ble_eq_true rfl), (Nat.le_of_ble_eq_true rfl)⟩ rfl rfl ⟨(Nat.le_of_ble_eq_true rfl), (Nat.le_of_ble_eq_true rfl)⟩ dX0_isLayer_11 (fun r_11 H locs hw_11 hP hS => ?_)
  obtain rfl := hw_11
  exact hret (zb (m_within x.toInt64 (0 : Int64) (((nI n) - 1).toInt64))) () _ _ _ _ _ _ (zb_n _) rfl hP hD hS (Nat.le_of_ble_eq_true rfl) (Nat.le_of_ble_eq_true rfl) dX0_isLayer_14
def rm_areDaysToRun : Room := { frames := 1, cells := 0, slots := 0, locals := 25 }
set_option maxHeartbeats 4000000 in
set_option maxRecDepth 100000 in
theorem c_areDaysToRun (l : Launch) (D : va_G) (g : Nat → ClassId) (q : Nat → Nat) (n : Nat) (a : Nat → Nat → Int32) (b : Nat → Nat → Int64) (v : Nat → Nat → Int32) (x : Int32) : zc_i l D (tyG g) yX0_areDaysToRun cX0_areDaysToRun 2 (some .boolean) rm_areDaysToRun [.ref (q 0), .int x] (wL g q n a b v) (fun (r : Int32) (u : Unit) => r = zb (m_days (a 0 4) x)) (fun _ => wL g q n a b v) 0 0 := by
  refine zi_of (by decide) (Nat.le_of_ble_eq_true rfl) rfl ?_
  intro p e s m args below meth cd_ A Q ls C0 hnm hP hD hS hl hret
  obtain ⟨hx, hb, hr, hml, hlocks, hown, hts, hK, hA, hN⟩ := id C0
  have hl : lv_has ls 2 [(0, .ref (q 0)), (1, .int x)] := hl
  refine lv_iload_n hx hb dX0_areDaysToRun_0 rfl (lv_at hl 1 rfl) ?_
  refine lv_i2l (v := x.toInt64) hx hb dX0_areDaysToRun_1 rfl ?_
  refine lv_lconst (v := 1) hx hb dX0_areDaysToRun_2 (by decide) ?_
  refine lv_ldc2 (v := 100) hx hb hown (hts _ kc_X0_149) dX0_areDaysToRun_3 ?_
  refine zk_pi (rest := []) C0 hP hD hS (c_within l D (tyG g) x.toInt64 (1 : Int64) (100 : Int64)) kk_X0_46 hl.1 rfl rfl (Nat.le_of_ble_eq_true rfl) ⟨(Nat.le_of_ble_eq_true rfl), (Nat.le_of_ble_eq_true rfl)⟩ rfl rfl ⟨(Nat.le_of_ble_eq_true rfl), (Nat.le_of_ble_eq_true rfl)⟩ dX0_areDaysToRun_6 (fun r_6 H locs hw_6 hP hS => ?_)
  obtain rfl := hw_6
  refine lv_if_eq (tgt := 28) hx hb dX0_areDaysToRun_9 (by decide) (fun c_9 => ?_) (fun c_9 => ?_)
  · -- jump at 9
    have c_9 := zb_f c_9
    refine lv_iconst (v := 0) hx hb dX0_areDaysToRun_28 (by decide) ?_
    exact hret 0 () _ _ _ _ _ _ rfl (by first | exact m_d3 c_9 c_21 | exact m_d2 c_21 | exact m_d1 c_9) hP hD hS (Nat.le_of_ble_eq_true rfl) (Nat.le_of_ble_eq_true rfl) dX0_areDaysToRun_29
  · -- on at 9
    have c_9 := zb_t c_9
    refine lv_aload_n hx hb dX0_areDaysToRun_12 rfl (lv_at hl 0 rfl) ?_
    refine va_get (D := D) (ci := 0) (v := .int (a 0 4)) (C := RX0) (T := TX0) (N := 18) hx hb hts iw_X0 hown hK hP 0 rfl rfl 15 (by decide) (hts _ kf_X0_93) (fun _ h9 => h9) rfl dX0_areDaysToRun_13 ?_
    refine lv_iload_n hx hb dX0_areDaysToRun_16 rfl (lv_at hl 1 rfl) ?_
    refine lv_iadd hx hb dX0_areDaysToRun_17 ?_
    refine lv_sipush (v := 400) hx hb dX0_areDaysToRun_18 (by decide) ?_
    refine lv_icmp_gt (tgt := 28) hx hb dX0_areDaysToRun_21 (by decide) (fun c_21 => ?_) (fun c_21 => ?_)
    · -- jump at 21
      refine lv_iconst (v := 0) hx hb dX0_areDaysToRun_28 (by decide) ?_
      exact hret 0 () _ _ _ _ _ _ rfl (by first | exact m_d3 c_9 c_21 | exact m_d2 c_21 | exact m_d1 c_9) hP hD hS (Nat.le_of_ble_eq_true rfl) (Nat.le_of_ble_eq_true rfl) dX0_areDaysToRun_29
    · -- on at 21
      refine lv_iconst (v := 1) hx hb dX0_areDaysToRun_24 (by decide) ?_
      refine lv_goto (tgt := 29) hx hb dX0_areDaysToRun_25 (by decide) ?_
      exact hret 1 () _ _ _ _ _ _ rfl (by first | exact m_d3 c_9 c_21 | exact m_d2 c_21 | exact m_d1 c_9) hP hD hS (Nat.le_of_ble_eq_true rfl) (Nat.le_of_ble_eq_true rfl) dX0_areDaysToRun_29
def rm_comeIn : Room := { frames := 1, cells := 0, slots := 0, locals := 22 }
set_option maxHeartbeats 4000000 in
set_option maxRecDepth 100000 in
theorem c_comeIn (l : Launch) (D : va_G) (g : Nat → ClassId) (q : Nat → Nat) (n : Nat) (a : Nat → Nat → Int32) (b : Nat → Nat → Int64) (v : Nat → Nat → Int32) (hn : 1 ≤ n ∧ n ≤ 6) (x : Int64) : zc_v l D (tyG g) yX0_comeIn cX0_comeIn 5 none rm_comeIn [.ref (q 0), .long x] (wL g q n a b v) (fun (u : (Nat → Nat → Int64)) => u = m_in a b x) (fun u => wL g q n a u v) 0 0 := by
  refine zv_of (by decide) (Nat.le_of_ble_eq_true rfl) rfl ?_
  intro p e s m args below meth cd_ A Q ls C0 hnm hP hD hS hl hret
  obtain ⟨hx, hb, hr, hml, hlocks, hown, hts, hK, hA, hN⟩ := id C0
  have hl : lv_has ls 5 [(0, .ref (q 0)), (1, .long x)] := hl
  refine lv_aload_n hx hb dX0_comeIn_0 rfl (lv_at hl 0 rfl) ?_
  refine va_get (D := D) (ci := 0) (v := .int (a 0 0)) (C := RX0) (T := TX0) (N := 18) hx hb hts iw_X0 hown hK hP 0 rfl rfl 10 (by decide) (hts _ kf_X0_75) (fun _ h9 => h9) rfl dX0_comeIn_1 ?_
  refine lv_lload_n hx hb dX0_comeIn_4 rfl (lv_at hl 1 rfl) ?_
  refine zk_pl (rest := []) C0 hP hD hS (c_partsOf l D (tyG g) (a 0 0) x) kk_X0_169 hl.1 rfl rfl (Nat.le_of_ble_eq_true rfl) ⟨(Nat.le_of_ble_eq_true rfl), (Nat.le_of_ble_eq_true rfl)⟩ rfl rfl ⟨(Nat.le_of_ble_eq_true rfl), (Nat.le_of_ble_eq_true rfl)⟩ dX0_comeIn_5 (fun r_5 H locs hw_5 hP hS => ?_)
  obtain rfl := hw_5
  refine lv_lstore_n (lv' := [(3, .long (m_of (a 0 0) x)), (0, .ref (q 0)), (1, .long x)]) hx hb dX0_comeIn_8 rfl hl (by decide) rfl (fun ls hl => ?_)
  refine lv_aload_n hx hb dX0_comeIn_9 rfl (lv_at hl 1 rfl) ?_
  refine va_get (D := D) (ci := 0) (v := .ref (q 8)) (C := RX0) (T := TX0) (N := 18) hx hb hts iw_X0 hown hK hP 0 rfl rfl 7 (by decide) (hts _ kf_X0_23) (fun _ h9 => h9) rfl dX0_comeIn_10 ?_
  refine lv_iconst (v := 0) hx hb dX0_comeIn_13 (by decide) ?_
  refine lv_dup2_11 hx hb dX0_comeIn_14 rfl rfl ?_
  refine za_lald (k := 0) (f := (b 8)) (v := b 8 0) hx hb hK hP 8 1 rfl rfl rfl (by decide) (by decide) rfl dX0_comeIn_15 ?_
  refine lv_lload_n hx hb dX0_comeIn_16 rfl (lv_at hl 2 rfl) ?_
  refine lv_ladd hx hb dX0_comeIn_17 ?_
  refine za_last (k := 0) (x := (b 8 0) + x) (f := (b 8)) hx hb hK hP hD hS 8 1 rfl rfl rfl (by decide) (by decide) dX0_comeIn_18 (fun H locs hP hD hS => ?_)
  have hP : va_P D vwCl (wL g q n a (va_up b 8 (vp_updL (b 8) 0 ((b 8 0) + x))) v) H := hP
  have hD : va_D A (wL g q n a (va_up b 8 (vp_updL (b 8) 0 ((b 8 0) + x))) v) := hD
  refine lv_aload_n hx hb dX0_comeIn_19 rfl (lv_at hl 1 rfl) ?_
  refine va_get (D := D) (ci := 0) (v := .ref (q 8)) (C := RX0) (T := TX0) (N := 18) hx hb hts iw_X0 hown hK hP 0 rfl rfl 7 (by decide) (hts _ kf_X0_23) (fun _ h9 => h9) rfl dX0_comeIn_20 ?_
  refine lv_iconst (v := 1) hx hb dX0_comeIn_23 (by decide) ?_
  refine lv_dup2_11 hx hb dX0_comeIn_24 rfl rfl ?_
  refine za_lald (k := 1) (f := (vp_updL (b 8) 0 ((b 8 0) + x))) (v := b 8 1) hx hb hK hP 8 1 rfl rfl rfl (by decide) (by decide) rfl dX0_comeIn_25 ?_
  refine lv_lload_n hx hb dX0_comeIn_26 rfl (lv_at hl 0 rfl) ?_
  refine lv_ladd hx hb dX0_comeIn_27 ?_
  refine za_last (k := 1) (x := (b 8 1) + (m_of (a 0 0) x)) (f := (vp_updL (b 8) 0 ((b 8 0) + x))) hx hb hK hP hD hS 8 1 rfl rfl rfl (by decide) (by decide) dX0_comeIn_28 (fun H locs hP hD hS => ?_)
  have hP : va_P D vwCl (wL g q n a (va_up b 8 (vp_updL (vp_updL (b 8) 0 ((b 8 0) + x)) 1 ((b 8 1) + (m_of (a 0 0) x)))) v) H := hP
  have hD : va_D A (wL g q n a (va_up b 8 (vp_updL (vp_updL (b 8) 0 ((b 8 0) + x)) 1 ((b 8 1) + (m_of (a 0 0) x)))) v) := hD
  refine lv_aload_n hx hb dX0_comeIn_29 rfl (lv_at hl 1 rfl) ?_
  refine va_get (D := D) (ci := 0) (v := .ref (q 1)) (C := RX0) (T := TX0) (N := 18) hx hb hts iw_X0 hown hK hP 0 rfl rfl 0 (by decide) (hts _ kf_X0_50) (fun _ h9 => h9) rfl dX0_comeIn_30 ?_
  refine lv_iconst (v := 0) hx hb dX0_comeIn_33 (by decide) ?_
  refine lv_dup2_11 hx hb dX0_comeIn_34 rfl rfl ?_
  refine za_lald (k := 0) (f := (b 1)) (v := b 1 0) hx hb hK hP 1 1 rfl rfl rfl (by omega) (by omega) rfl dX0_comeIn_35 ?_
  refine lv_lload_n hx hb dX0_comeIn_36 rfl (lv_at hl 2 rfl) ?_
  refine lv_lload_n hx hb dX0_comeIn_37 rfl (lv_at hl 0 rfl) ?_
  refine lv_lsub hx hb dX0_comeIn_38 ?_
  refine lv_aload_n hx hb dX0_comeIn_39 rfl (lv_at hl 1 rfl) ?_
  refine va_get (D := D) (ci := 0) (v := .ref (q 8)) (C := RX0) (T := TX0) (N := 18) hx hb hts iw_X0 hown hK hP 0 rfl rfl 7 (by decide) (hts _ kf_X0_23) (fun _ h9 => h9) rfl dX0_comeIn_40 ?_
  refine lv_bipush (v := 8) hx hb dX0_comeIn_43 (by decide) ?_
  refine za_lald (k := 8) (f := (vp_updL (vp_updL (b 8) 0 ((b 8 0) + x)) 1 ((b 8 1) + (m_of (a 0 0) x)))) (v := b 8 8) hx hb hK hP 8 1 rfl rfl rfl (by decide) (by decide) rfl dX0_comeIn_45 ?_
  refine lv_ladd hx hb dX0_comeIn_46 ?_
  refine lv_ladd hx hb dX0_comeIn_47 ?_
  refine za_last (k := 0) (x := (b 1 0) + ((x - (m_of (a 0 0) x)) + (b 8 8))) (f := (b 1)) hx hb hK hP hD hS 1 1 rfl rfl rfl (by omega) (by omega) dX0_comeIn_48 (fun H locs hP hD hS => ?_)
  have hP : va_P D vwCl (wL g q n a (va_up (va_up b 1 (vp_updL (b 1) 0 ((b 1 0) + ((x - (m_of (a 0 0) x)) + (b 8 8))))) 8 (vp_updL (vp_updL (b 8) 0 ((b 8 0) + x)) 1 ((b 8 1) + (m_of (a 0 0) x)))) v) H := hP
  have hD : va_D A (wL g q n a (va_up (va_up b 1 (vp_updL (b 1) 0 ((b 1 0) + ((x - (m_of (a 0 0) x)) + (b 8 8))))) 8 (vp_updL (vp_updL (b 8) 0 ((b 8 0) + x)) 1 ((b 8 1) + (m_of (a 0 0) x)))) v) := hD
  exact hret (va_up (va_up b 1 (vp_updL (b 1) 0 ((b 1 0) + ((x - (m_of (a 0 0) x)) + (b 8 8))))) 8 (vp_updL (vp_updL (b 8) 0 ((b 8 0) + x)) 1 ((b 8 1) + (m_of (a 0 0) x)))) _ _ _ _ _ _ rfl hP hD hS (Nat.le_of_ble_eq_true rfl) (Nat.le_of_ble_eq_true rfl) dX0_comeIn_49
def rm_passDown : Room := { frames := 1, cells := 0, slots := 0, locals := 23 }
set_option maxHeartbeats 4000000 in
set_option maxRecDepth 100000 in
theorem c_passDown (l : Launch) (D : va_G) (g : Nat → ClassId) (q : Nat → Nat) (n : Nat) (a : Nat → Nat → Int32) (b : Nat → Nat → Int64) (v : Nat → Nat → Int32) (hn : 1 ≤ n ∧ n ≤ 6) : zc_l l D (tyG g) yX0_passDown cX0_passDown 6 (some .long) rm_passDown [.ref (q 0)] (wL g q n a b v) (fun (r : Int64) (u : (Nat → Nat → Int64)) => r = (m_pd (a 2) (a 3) (b 1) n).2 ∧ u = va_up b 1 (m_pd (a 2) (a 3) (b 1) n).1) (fun u => wL g q n a u v) 0 0 := by
  refine zl_of (by decide) (Nat.le_of_ble_eq_true rfl) rfl ?_
  intro p e s m args below meth cd_ A Q ls C0 hnm hP hD hS hl hret
  obtain ⟨hx, hb, hr, hml, hlocks, hown, hts, hK, hA, hN⟩ := id C0
  have hl : lv_has ls 6 [(0, .ref (q 0))] := hl
  refine lv_lconst (v := 0) hx hb dX0_passDown_0 (by decide) ?_
  refine lv_lstore_n (lv' := [(1, .long 0), (0, .ref (q 0))]) hx hb dX0_passDown_1 rfl hl (by decide) rfl (fun ls hl => ?_)
  refine lv_iconst (v := 0) hx hb dX0_passDown_2 (by decide) ?_
  refine lv_istore_n (lv' := [(3, .int 0), (1, .long 0), (0, .ref (q 0))]) hx hb dX0_passDown_3 rfl hl (by decide) rfl (fun ls hl => ?_)
  have lp_4 : ∀ (t_4 i : Nat) , i + t_4 = n → ∀ (H : Heap) (locs : List Loc) (ls : Array Slot), va_P D vwCl (wL g q n a (va_up b 1 ((m_pd (a 2) (a 3) (b 1) i).1)) v) H → va_D A (wL g q n a (va_up b 1 ((m_pd (a 2) (a 3) (b 1) i).1)) v) → va_S A s.heap H locs → lv_has ls 6 [(3, .int (nI i)), (1, .long ((m_pd (a 2) (a 3) (b 1) i).2)), (0, .ref (q 0))] → W p l e rm_passDown s m args below meth cd_ H locs 0 0 Q (F0 m 4 ls []) := by
    intro t_4
    induction t_4 with
    | zero =>
      intro i hi_4 H locs ls hP hD hS hl
      obtain rfl : n = i := by omega
      refine lv_iload_n hx hb dX0_passDown_4 rfl (lv_at hl 0 rfl) ?_
      refine lv_aload_n hx hb dX0_passDown_5 rfl (lv_at hl 2 rfl) ?_
      refine va_get (D := D) (ci := 0) (v := .ref (q 1)) (C := RX0) (T := TX0) (N := 18) hx hb hts iw_X0 hown hK hP 0 rfl rfl 0 (by decide) (hts _ kf_X0_50) (fun _ h9 => h9) rfl dX0_passDown_6 ?_
      refine va_alen (v := nI n) hx hb hK hP 1 1 rfl rfl rfl dX0_passDown_9 ?_
      refine lv_icmp_ge (tgt := 71) hx hb dX0_passDown_10 (by decide) (fun _ => ?_) (fun c_10 => absurd (nI_le (Nat.le_refl _) (by omega)) c_10)
      refine lv_lload_n hx hb dX0_passDown_71 rfl (lv_at hl 1 rfl) ?_
      exact hret ((m_pd (a 2) (a 3) (b 1) n).2) (va_up b 1 ((m_pd (a 2) (a 3) (b 1) n).1)) _ _ _ _ _ _ ⟨rfl, rfl⟩ hP hD hS (Nat.le_of_ble_eq_true rfl) (Nat.le_of_ble_eq_true rfl) dX0_passDown_72
    | succ t_4 ih_4 =>
      intro i hi_4 H locs ls hP hD hS hl
      refine lv_iload_n hx hb dX0_passDown_4 rfl (lv_at hl 0 rfl) ?_
      refine lv_aload_n hx hb dX0_passDown_5 rfl (lv_at hl 2 rfl) ?_
      refine va_get (D := D) (ci := 0) (v := .ref (q 1)) (C := RX0) (T := TX0) (N := 18) hx hb hts iw_X0 hown hK hP 0 rfl rfl 0 (by decide) (hts _ kf_X0_50) (fun _ h9 => h9) rfl dX0_passDown_6 ?_
      refine va_alen (v := nI n) hx hb hK hP 1 1 rfl rfl rfl dX0_passDown_9 ?_
      refine lv_icmp_ge (tgt := 71) hx hb dX0_passDown_10 (by decide) (fun c_10 => absurd c_10 (nI_ge (by omega) (by omega))) (fun _ => ?_)
      refine lv_aload_n hx hb dX0_passDown_13 rfl (lv_at hl 2 rfl) ?_
      refine va_get (D := D) (ci := 0) (v := .ref (q 1)) (C := RX0) (T := TX0) (N := 18) hx hb hts iw_X0 hown hK hP 0 rfl rfl 0 (by decide) (hts _ kf_X0_50) (fun _ h9 => h9) rfl dX0_passDown_14 ?_
      refine lv_iload_n hx hb dX0_passDown_17 rfl (lv_at hl 0 rfl) ?_
      refine lv_dup2_11 hx hb dX0_passDown_18 rfl rfl ?_
      refine za_lald (k := i) (f := ((m_pd (a 2) (a 3) (b 1) i).1)) (v := (m_pd (a 2) (a 3) (b 1) i).1 i) hx hb hK hP 1 1 rfl rfl rfl (by omega) (by omega) rfl dX0_passDown_19 ?_
      refine lv_lload_n hx hb dX0_passDown_20 rfl (lv_at hl 1 rfl) ?_
      refine lv_ladd hx hb dX0_passDown_21 ?_
      refine za_last (k := i) (x := ((m_pd (a 2) (a 3) (b 1) i).1 i) + ((m_pd (a 2) (a 3) (b 1) i).2)) (f := ((m_pd (a 2) (a 3) (b 1) i).1)) hx hb hK hP hD hS 1 1 rfl rfl rfl (by omega) (by omega) dX0_passDown_22 (fun H locs hP hD hS => ?_)
      have hP : va_P D vwCl (wL g q n a (va_up b 1 (vp_updL ((m_pd (a 2) (a 3) (b 1) i).1) i (((m_pd (a 2) (a 3) (b 1) i).1 i) + ((m_pd (a 2) (a 3) (b 1) i).2)))) v) H := hP
      have hD : va_D A (wL g q n a (va_up b 1 (vp_updL ((m_pd (a 2) (a 3) (b 1) i).1) i (((m_pd (a 2) (a 3) (b 1) i).1 i) + ((m_pd (a 2) (a 3) (b 1) i).2)))) v) := hD
      refine lv_lconst (v := 0) hx hb dX0_passDown_23 (by decide) ?_
      refine lv_aload_n hx hb dX0_passDown_24 rfl (lv_at hl 2 rfl) ?_
      refine va_get (D := D) (ci := 0) (v := .ref (q 1)) (C := RX0) (T := TX0) (N := 18) hx hb hts iw_X0 hown hK hP 0 rfl rfl 0 (by decide) (hts _ kf_X0_50) (fun _ h9 => h9) rfl dX0_passDown_25 ?_
      refine lv_iload_n hx hb dX0_passDown_28 rfl (lv_at hl 0 rfl) ?_
      refine za_lald (k := i) (f := (vp_updL ((m_pd (a 2) (a 3) (b 1) i).1) i (((m_pd (a 2) (a 3) (b 1) i).1 i) + ((m_pd (a 2) (a 3) (b 1) i).2)))) (v := ((m_pd (a 2) (a 3) (b 1) i).1 i) + ((m_pd (a 2) (a 3) (b 1) i).2)) hx hb hK hP 1 1 rfl rfl rfl (by omega) (by omega) pk_uLs dX0_passDown_29 ?_
      refine lv_aload_n hx hb dX0_passDown_30 rfl (lv_at hl 2 rfl) ?_
      refine va_get (D := D) (ci := 0) (v := .ref (q 2)) (C := RX0) (T := TX0) (N := 18) hx hb hts iw_X0 hown hK hP 0 rfl rfl 1 (by decide) (hts _ kf_X0_53) (fun _ h9 => h9) rfl dX0_passDown_31 ?_
      refine lv_iload_n hx hb dX0_passDown_34 rfl (lv_at hl 0 rfl) ?_
      refine za_iald (k := i) (f := (a 2)) (v := a 2 i) hx hb hK hP 2 0 rfl rfl rfl (by omega) (by omega) rfl dX0_passDown_35 ?_
      refine lv_i2l (v := (a 2 i).toInt64) hx hb dX0_passDown_36 rfl ?_
      refine lv_lsub hx hb dX0_passDown_37 ?_
      refine va_mmax_long hx hb (hml.trans hl.1.symm) hown (hts _ kl_X0_173) (hts _ ks_max_long) (hts _ ki_Math) (hts _ kc_max_long) (Nat.le_of_ble_eq_true rfl) (Nat.le_of_ble_eq_true rfl) (Nat.le_of_ble_eq_true rfl) (Nat.le_of_ble_eq_true rfl) dX0_passDown_38 ?_
      refine lv_lstore (lv' := [(4, .long (m_max0 ((((m_pd (a 2) (a 3) (b 1) i).1 i) + ((m_pd (a 2) (a 3) (b 1) i).2)) - ((a 2 i).toInt64)))), (3, .int (nI i)), (1, .long ((m_pd (a 2) (a 3) (b 1) i).2)), (0, .ref (q 0))]) hx hb dX0_passDown_41 hl (by decide) rfl (fun ls hl => ?_)
      refine lv_aload_n hx hb dX0_passDown_43 rfl (lv_at hl 3 rfl) ?_
      refine va_get (D := D) (ci := 0) (v := .ref (q 3)) (C := RX0) (T := TX0) (N := 18) hx hb hts iw_X0 hown hK hP 0 rfl rfl 2 (by decide) (hts _ kf_X0_56) (fun _ h9 => h9) rfl dX0_passDown_44 ?_
      refine lv_iload_n hx hb dX0_passDown_47 rfl (lv_at hl 1 rfl) ?_
      refine za_iald (k := i) (f := (a 3)) (v := a 3 i) hx hb hK hP 3 0 rfl rfl rfl (by omega) (by omega) rfl dX0_passDown_48 ?_
      refine lv_lload hx hb dX0_passDown_49 (lv_at hl 0 rfl) ?_
      refine zk_pl (rest := []) C0 hP hD hS (c_partsOf l D (tyG g) (a 3 i) (m_max0 ((((m_pd (a 2) (a 3) (b 1) i).1 i) + ((m_pd (a 2) (a 3) (b 1) i).2)) - ((a 2 i).toInt64)))) kk_X0_169 hl.1 rfl rfl (Nat.le_of_ble_eq_true rfl) ⟨(Nat.le_of_ble_eq_true rfl), (Nat.le_of_ble_eq_true rfl)⟩ rfl rfl ⟨(Nat.le_of_ble_eq_true rfl), (Nat.le_of_ble_eq_true rfl)⟩ dX0_passDown_51 (fun r_51 H locs hw_51 hP hS => ?_)
      obtain rfl := hw_51
      refine lv_lstore_n (lv' := [(1, .long (m_of (a 3 i) (m_max0 ((((m_pd (a 2) (a 3) (b 1) i).1 i) + ((m_pd (a 2) (a 3) (b 1) i).2)) - ((a 2 i).toInt64))))), (4, .long (m_max0 ((((m_pd (a 2) (a 3) (b 1) i).1 i) + ((m_pd (a 2) (a 3) (b 1) i).2)) - ((a 2 i).toInt64)))), (3, .int (nI i)), (0, .ref (q 0))]) hx hb dX0_passDown_54 rfl hl (by decide) rfl (fun ls hl => ?_)
      refine lv_aload_n hx hb dX0_passDown_55 rfl (lv_at hl 3 rfl) ?_
      refine va_get (D := D) (ci := 0) (v := .ref (q 1)) (C := RX0) (T := TX0) (N := 18) hx hb hts iw_X0 hown hK hP 0 rfl rfl 0 (by decide) (hts _ kf_X0_50) (fun _ h9 => h9) rfl dX0_passDown_56 ?_
      refine lv_iload_n hx hb dX0_passDown_59 rfl (lv_at hl 2 rfl) ?_
      refine lv_dup2_11 hx hb dX0_passDown_60 rfl rfl ?_
      refine za_lald (k := i) (f := (vp_updL ((m_pd (a 2) (a 3) (b 1) i).1) i (((m_pd (a 2) (a 3) (b 1) i).1 i) + ((m_pd (a 2) (a 3) (b 1) i).2)))) (v := ((m_pd (a 2) (a 3) (b 1) i).1 i) + ((m_pd (a 2) (a 3) (b 1) i).2)) hx hb hK hP 1 1 rfl rfl rfl (by omega) (by omega) pk_uLs dX0_passDown_61 ?_
      refine lv_lload_n hx hb dX0_passDown_62 rfl (lv_at hl 0 rfl) ?_
      refine lv_lsub hx hb dX0_passDown_63 ?_
      refine za_last (k := i) (x := (((m_pd (a 2) (a 3) (b 1) i).1 i) + ((m_pd (a 2) (a 3) (b 1) i).2)) - (m_of (a 3 i) (m_max0 ((((m_pd (a 2) (a 3) (b 1) i).1 i) + ((m_pd (a 2) (a 3) (b 1) i).2)) - ((a 2 i).toInt64))))) (f := (vp_updL ((m_pd (a 2) (a 3) (b 1) i).1) i (((m_pd (a 2) (a 3) (b 1) i).1 i) + ((m_pd (a 2) (a 3) (b 1) i).2)))) hx hb hK hP hD hS 1 1 rfl rfl rfl (by omega) (by omega) dX0_passDown_64 (fun H locs hP hD hS => ?_)
      have hP : va_P D vwCl (wL g q n a (va_up b 1 (vp_updL (vp_updL ((m_pd (a 2) (a 3) (b 1) i).1) i (((m_pd (a 2) (a 3) (b 1) i).1 i) + ((m_pd (a 2) (a 3) (b 1) i).2))) i ((((m_pd (a 2) (a 3) (b 1) i).1 i) + ((m_pd (a 2) (a 3) (b 1) i).2)) - (m_of (a 3 i) (m_max0 ((((m_pd (a 2) (a 3) (b 1) i).1 i) + ((m_pd (a 2) (a 3) (b 1) i).2)) - ((a 2 i).toInt64))))))) v) H := hP
      have hD : va_D A (wL g q n a (va_up b 1 (vp_updL (vp_updL ((m_pd (a 2) (a 3) (b 1) i).1) i (((m_pd (a 2) (a 3) (b 1) i).1 i) + ((m_pd (a 2) (a 3) (b 1) i).2))) i ((((m_pd (a 2) (a 3) (b 1) i).1 i) + ((m_pd (a 2) (a 3) (b 1) i).2)) - (m_of (a 3 i) (m_max0 ((((m_pd (a 2) (a 3) (b 1) i).1 i) + ((m_pd (a 2) (a 3) (b 1) i).2)) - ((a 2 i).toInt64))))))) v) := hD
      refine lv_iinc (v := nI (i + 1)) (lv' := [(3, .int (nI (i + 1))), (1, .long (m_of (a 3 i) (m_max0 ((((m_pd (a 2) (a 3) (b 1) i).1 i) + ((m_pd (a 2) (a 3) (b 1) i).2)) - ((a 2 i).toInt64))))), (4, .long (m_max0 ((((m_pd (a 2) (a 3) (b 1) i).1 i) + ((m_pd (a 2) (a 3) (b 1) i).2)) - ((a 2 i).toInt64)))), (0, .ref (q 0))]) hx hb dX0_passDown_65 hl (k := 2) rfl (nI_1 i) (by decide) rfl (fun ls hl => ?_)
      refine lv_goto (tgt := 4) hx hb dX0_passDown_68 (by decide) ?_
      have hP : va_P D vwCl (wL g q n a (va_up b 1 ((m_pd (a 2) (a 3) (b 1) (i + 1)).1)) v) _ := hP
      have hD : va_D A (wL g q n a (va_up b 1 ((m_pd (a 2) (a 3) (b 1) (i + 1)).1)) v) := hD
      have hl : lv_has ls 6 [(3, .int (nI (i + 1))), (1, .long ((m_pd (a 2) (a 3) (b 1) (i + 1)).2)), (0, .ref (q 0))] := lv_sub hl [0, 1, 3] rfl
      exact ih_4 (i + 1)  (by omega)  _ _ _ hP hD hS hl
  exact lp_4 (n - 0) 0  (by omega)  _ _ _ hP hD hS (lv_sub hl [0, 1, 2] rfl)
def rm_fillTank : Room := { frames := 1, cells := 0, slots := 0, locals := 23 }
set_option maxHeartbeats 4000000 in
set_option maxRecDepth 100000 in
theorem c_fillTank (l : Launch) (D : va_G) (g : Nat → ClassId) (q : Nat → Nat) (n : Nat) (a : Nat → Nat → Int32) (b : Nat → Nat → Int64) (v : Nat → Nat → Int32) (x : Int64) : zc_v l D (tyG g) yX0_fillTank cX0_fillTank 9 none rm_fillTank [.ref (q 0), .long x] (wL g q n a b v) (fun (u : (Nat → Nat → Int64)) => u = m_fill a b x) (fun u => wL g q n a u v) 0 0 := by
  refine zv_of (by decide) (Nat.le_of_ble_eq_true rfl) rfl ?_
  intro p e s m args below meth cd_ A Q ls C0 hnm hP hD hS hl hret
  obtain ⟨hx, hb, hr, hml, hlocks, hown, hts, hK, hA, hN⟩ := id C0
  have hl : lv_has ls 9 [(0, .ref (q 0)), (1, .long x)] := hl
  refine lv_aload_n hx hb dX0_fillTank_0 rfl (lv_at hl 0 rfl) ?_
  refine va_get (D := D) (ci := 0) (v := .int (a 0 1)) (C := RX0) (T := TX0) (N := 18) hx hb hts iw_X0 hown hK hP 0 rfl rfl 11 (by decide) (hts _ kf_X0_79) (fun _ h9 => h9) rfl dX0_fillTank_1 ?_
  refine lv_lload_n hx hb dX0_fillTank_4 rfl (lv_at hl 1 rfl) ?_
  refine zk_pl (rest := []) C0 hP hD hS (c_partsOf l D (tyG g) (a 0 1) x) kk_X0_169 hl.1 rfl rfl (Nat.le_of_ble_eq_true rfl) ⟨(Nat.le_of_ble_eq_true rfl), (Nat.le_of_ble_eq_true rfl)⟩ rfl rfl ⟨(Nat.le_of_ble_eq_true rfl), (Nat.le_of_ble_eq_true rfl)⟩ dX0_fillTank_5 (fun r_5 H locs hw_5 hP hS => ?_)
  obtain rfl := hw_5
  refine lv_lstore_n (lv' := [(3, .long (m_of (a 0 1) x)), (0, .ref (q 0)), (1, .long x)]) hx hb dX0_fillTank_8 rfl hl (by decide) rfl (fun ls hl => ?_)
  refine lv_aload_n hx hb dX0_fillTank_9 rfl (lv_at hl 1 rfl) ?_
  refine va_get (D := D) (ci := 0) (v := .ref (q 8)) (C := RX0) (T := TX0) (N := 18) hx hb hts iw_X0 hown hK hP 0 rfl rfl 7 (by decide) (hts _ kf_X0_23) (fun _ h9 => h9) rfl dX0_fillTank_10 ?_
  refine lv_iconst (v := 2) hx hb dX0_fillTank_13 (by decide) ?_
  refine lv_dup2_11 hx hb dX0_fillTank_14 rfl rfl ?_
  refine za_lald (k := 2) (f := (b 8)) (v := b 8 2) hx hb hK hP 8 1 rfl rfl rfl (by decide) (by decide) rfl dX0_fillTank_15 ?_
  refine lv_lload_n hx hb dX0_fillTank_16 rfl (lv_at hl 2 rfl) ?_
  refine lv_ladd hx hb dX0_fillTank_17 ?_
  refine za_last (k := 2) (x := (b 8 2) + x) (f := (b 8)) hx hb hK hP hD hS 8 1 rfl rfl rfl (by decide) (by decide) dX0_fillTank_18 (fun H locs hP hD hS => ?_)
  have hP : va_P D vwCl (wL g q n a (va_up b 8 (vp_updL (b 8) 2 ((b 8 2) + x))) v) H := hP
  have hD : va_D A (wL g q n a (va_up b 8 (vp_updL (b 8) 2 ((b 8 2) + x))) v) := hD
  refine lv_aload_n hx hb dX0_fillTank_19 rfl (lv_at hl 1 rfl) ?_
  refine va_get (D := D) (ci := 0) (v := .ref (q 8)) (C := RX0) (T := TX0) (N := 18) hx hb hts iw_X0 hown hK hP 0 rfl rfl 7 (by decide) (hts _ kf_X0_23) (fun _ h9 => h9) rfl dX0_fillTank_20 ?_
  refine lv_iconst (v := 3) hx hb dX0_fillTank_23 (by decide) ?_
  refine lv_dup2_11 hx hb dX0_fillTank_24 rfl rfl ?_
  refine za_lald (k := 3) (f := (vp_updL (b 8) 2 ((b 8 2) + x))) (v := b 8 3) hx hb hK hP 8 1 rfl rfl rfl (by decide) (by decide) rfl dX0_fillTank_25 ?_
  refine lv_lload_n hx hb dX0_fillTank_26 rfl (lv_at hl 2 rfl) ?_
  refine lv_lload_n hx hb dX0_fillTank_27 rfl (lv_at hl 0 rfl) ?_
  refine lv_lsub hx hb dX0_fillTank_28 ?_
  refine lv_ladd hx hb dX0_fillTank_29 ?_
  refine za_last (k := 3) (x := (b 8 3) + (x - (m_of (a 0 1) x))) (f := (vp_updL (b 8) 2 ((b 8 2) + x))) hx hb hK hP hD hS 8 1 rfl rfl rfl (by decide) (by decide) dX0_fillTank_30 (fun H locs hP hD hS => ?_)
  have hP : va_P D vwCl (wL g q n a (va_up b 8 (vp_updL (vp_updL (b 8) 2 ((b 8 2) + x)) 3 ((b 8 3) + (x - (m_of (a 0 1) x))))) v) H := hP
  have hD : va_D A (wL g q n a (va_up b 8 (vp_updL (vp_updL (b 8) 2 ((b 8 2) + x)) 3 ((b 8 3) + (x - (m_of (a 0 1) x))))) v) := hD
  refine lv_aload_n hx hb dX0_fillTank_31 rfl (lv_at hl 1 rfl) ?_
  refine va_get (D := D) (ci := 0) (v := .ref (q 8)) (C := RX0) (T := TX0) (N := 18) hx hb hts iw_X0 hown hK hP 0 rfl rfl 7 (by decide) (hts _ kf_X0_23) (fun _ h9 => h9) rfl dX0_fillTank_32 ?_
  refine lv_bipush (v := 7) hx hb dX0_fillTank_35 (by decide) ?_
  refine za_lald (k := 7) (f := (vp_updL (vp_updL (b 8) 2 ((b 8 2) + x)) 3 ((b 8 3) + (x - (m_of (a 0 1) x))))) (v := b 8 7) hx hb hK hP 8 1 rfl rfl rfl (by decide) (by decide) rfl dX0_fillTank_37 ?_
  refine lv_lload_n hx hb dX0_fillTank_38 rfl (lv_at hl 0 rfl) ?_
  refine lv_ladd hx hb dX0_fillTank_39 ?_
  refine lv_lstore (lv' := [(5, .long ((b 8 7) + (m_of (a 0 1) x))), (3, .long (m_of (a 0 1) x)), (0, .ref (q 0)), (1, .long x)]) hx hb dX0_fillTank_40 hl (by decide) rfl (fun ls hl => ?_)
  refine lv_lconst (v := 0) hx hb dX0_fillTank_42 (by decide) ?_
  refine lv_lload hx hb dX0_fillTank_43 (lv_at hl 0 rfl) ?_
  refine lv_aload_n hx hb dX0_fillTank_45 rfl (lv_at hl 2 rfl) ?_
  refine va_get (D := D) (ci := 0) (v := .long (b 0 0)) (C := RX0) (T := TX0) (N := 18) hx hb hts iw_X0 hown hK hP 0 rfl rfl 13 (by decide) (hts _ kf_X0_87) (fun _ h9 => h9) rfl dX0_fillTank_46 ?_
  refine lv_lsub hx hb dX0_fillTank_49 ?_
  refine va_mmax_long hx hb (hml.trans hl.1.symm) hown (hts _ kl_X0_173) (hts _ ks_max_long) (hts _ ki_Math) (hts _ kc_max_long) (Nat.le_of_ble_eq_true rfl) (Nat.le_of_ble_eq_true rfl) (Nat.le_of_ble_eq_true rfl) (Nat.le_of_ble_eq_true rfl) dX0_fillTank_50 ?_
  refine lv_lstore (lv' := [(7, .long (m_max0 (((b 8 7) + (m_of (a 0 1) x)) - (b 0 0)))), (5, .long ((b 8 7) + (m_of (a 0 1) x))), (3, .long (m_of (a 0 1) x)), (0, .ref (q 0)), (1, .long x)]) hx hb dX0_fillTank_53 hl (by decide) rfl (fun ls hl => ?_)
  refine lv_aload_n hx hb dX0_fillTank_55 rfl (lv_at hl 3 rfl) ?_
  refine va_get (D := D) (ci := 0) (v := .ref (q 8)) (C := RX0) (T := TX0) (N := 18) hx hb hts iw_X0 hown hK hP 0 rfl rfl 7 (by decide) (hts _ kf_X0_23) (fun _ h9 => h9) rfl dX0_fillTank_56 ?_
  refine lv_iconst (v := 4) hx hb dX0_fillTank_59 (by decide) ?_
  refine lv_dup2_11 hx hb dX0_fillTank_60 rfl rfl ?_
  refine za_lald (k := 4) (f := (vp_updL (vp_updL (b 8) 2 ((b 8 2) + x)) 3 ((b 8 3) + (x - (m_of (a 0 1) x))))) (v := b 8 4) hx hb hK hP 8 1 rfl rfl rfl (by decide) (by decide) rfl dX0_fillTank_61 ?_
  refine lv_lload hx hb dX0_fillTank_62 (lv_at hl 0 rfl) ?_
  refine lv_ladd hx hb dX0_fillTank_64 ?_
  refine za_last (k := 4) (x := (b 8 4) + (m_max0 (((b 8 7) + (m_of (a 0 1) x)) - (b 0 0)))) (f := (vp_updL (vp_updL (b 8) 2 ((b 8 2) + x)) 3 ((b 8 3) + (x - (m_of (a 0 1) x))))) hx hb hK hP hD hS 8 1 rfl rfl rfl (by decide) (by decide) dX0_fillTank_65 (fun H locs hP hD hS => ?_)
  have hP : va_P D vwCl (wL g q n a (va_up b 8 (vp_updL (vp_updL (vp_updL (b 8) 2 ((b 8 2) + x)) 3 ((b 8 3) + (x - (m_of (a 0 1) x)))) 4 ((b 8 4) + (m_max0 (((b 8 7) + (m_of (a 0 1) x)) - (b 0 0)))))) v) H := hP
  have hD : va_D A (wL g q n a (va_up b 8 (vp_updL (vp_updL (vp_updL (b 8) 2 ((b 8 2) + x)) 3 ((b 8 3) + (x - (m_of (a 0 1) x)))) 4 ((b 8 4) + (m_max0 (((b 8 7) + (m_of (a 0 1) x)) - (b 0 0)))))) v) := hD
  refine lv_aload_n hx hb dX0_fillTank_66 rfl (lv_at hl 3 rfl) ?_
  refine va_get (D := D) (ci := 0) (v := .ref (q 8)) (C := RX0) (T := TX0) (N := 18) hx hb hts iw_X0 hown hK hP 0 rfl rfl 7 (by decide) (hts _ kf_X0_23) (fun _ h9 => h9) rfl dX0_fillTank_67 ?_
  refine lv_bipush (v := 7) hx hb dX0_fillTank_70 (by decide) ?_
  refine lv_lload hx hb dX0_fillTank_72 (lv_at hl 1 rfl) ?_
  refine lv_lload hx hb dX0_fillTank_74 (lv_at hl 0 rfl) ?_
  refine lv_lsub hx hb dX0_fillTank_76 ?_
  refine za_last (k := 7) (x := ((b 8 7) + (m_of (a 0 1) x)) - (m_max0 (((b 8 7) + (m_of (a 0 1) x)) - (b 0 0)))) (f := (vp_updL (vp_updL (vp_updL (b 8) 2 ((b 8 2) + x)) 3 ((b 8 3) + (x - (m_of (a 0 1) x)))) 4 ((b 8 4) + (m_max0 (((b 8 7) + (m_of (a 0 1) x)) - (b 0 0)))))) hx hb hK hP hD hS 8 1 rfl rfl rfl (by decide) (by decide) dX0_fillTank_77 (fun H locs hP hD hS => ?_)
  have hP : va_P D vwCl (wL g q n a (va_up b 8 (vp_updL (vp_updL (vp_updL (vp_updL (b 8) 2 ((b 8 2) + x)) 3 ((b 8 3) + (x - (m_of (a 0 1) x)))) 4 ((b 8 4) + (m_max0 (((b 8 7) + (m_of (a 0 1) x)) - (b 0 0))))) 7 (((b 8 7) + (m_of (a 0 1) x)) - (m_max0 (((b 8 7) + (m_of (a 0 1) x)) - (b 0 0)))))) v) H := hP
  have hD : va_D A (wL g q n a (va_up b 8 (vp_updL (vp_updL (vp_updL (vp_updL (b 8) 2 ((b 8 2) + x)) 3 ((b 8 3) + (x - (m_of (a 0 1) x)))) 4 ((b 8 4) + (m_max0 (((b 8 7) + (m_of (a 0 1) x)) - (b 0 0))))) 7 (((b 8 7) + (m_of (a 0 1) x)) - (m_max0 (((b 8 7) + (m_of (a 0 1) x)) - (b 0 0)))))) v) := hD
  exact hret (va_up b 8 (vp_updL (vp_updL (vp_updL (vp_updL (b 8) 2 ((b 8 2) + x)) 3 ((b 8 3) + (x - (m_of (a 0 1) x)))) 4 ((b 8 4) + (m_max0 (((b 8 7) + (m_of (a 0 1) x)) - (b 0 0))))) 7 (((b 8 7) + (m_of (a 0 1) x)) - (m_max0 (((b 8 7) + (m_of (a 0 1) x)) - (b 0 0)))))) _ _ _ _ _ _ rfl hP hD hS (Nat.le_of_ble_eq_true rfl) (Nat.le_of_ble_eq_true rfl) dX0_fillTank_78
def rm_clean : Room := { frames := 1, cells := 0, slots := 0, locals := 23 }
set_option maxHeartbeats 4000000 in
set_option maxRecDepth 100000 in
theorem c_clean (l : Launch) (D : va_G) (g : Nat → ClassId) (q : Nat → Nat) (n : Nat) (a : Nat → Nat → Int32) (b : Nat → Nat → Int64) (v : Nat → Nat → Int32) (sc : Nat) (hsc : a 0 3 = nI sc) (hsc4 : sc ≤ 4) : zc_l l D (tyG g) yX0_clean cX0_clean 8 (some .long) rm_clean [.ref (q 0)] (wL g q n a b v) (fun (r : Int64) (u : (Nat → Nat → Int64)) => (r, u) = m_clean sc a b) (fun u => wL g q n a u v) 0 0 := by
  refine zl_of (by decide) (Nat.le_of_ble_eq_true rfl) rfl ?_
  intro p e s m args below meth cd_ A Q ls C0 hnm hP hD hS hl hret
  obtain ⟨hx, hb, hr, hml, hlocks, hown, hts, hK, hA, hN⟩ := id C0
  have hl : lv_has ls 8 [(0, .ref (q 0))] := hl
  refine lv_aload_n hx hb dX0_clean_0 rfl (lv_at hl 0 rfl) ?_
  refine va_get (D := D) (ci := 0) (v := .int (a 0 3)) (C := RX0) (T := TX0) (N := 18) hx hb hts iw_X0 hown hK hP 0 rfl rfl 14 (by decide) (hts _ kf_X0_90) (fun _ h9 => h9) rfl dX0_clean_1 ?_
  rw [hsc]
  refine lv_if_ne (tgt := 9) hx hb dX0_clean_4 (by decide) (fun c_4 => ?_) (fun c_4 => ?_)
  · -- jump at 4
    have hs0 : ¬ sc = 0 := fun h => c_4 (by rw [h]; rfl)
    refine lv_aload_n hx hb dX0_clean_9 rfl (lv_at hl 0 rfl) ?_
    refine va_get (D := D) (ci := 0) (v := .ref (q 8)) (C := RX0) (T := TX0) (N := 18) hx hb hts iw_X0 hown hK hP 0 rfl rfl 7 (by decide) (hts _ kf_X0_23) (fun _ h9 => h9) rfl dX0_clean_10 ?_
    refine lv_bipush (v := 7) hx hb dX0_clean_13 (by decide) ?_
    refine za_lald (k := 7) (f := (b 8)) (v := b 8 7) hx hb hK hP 8 1 rfl rfl rfl (by decide) (by decide) rfl dX0_clean_15 ?_
    refine lv_lstore_n (lv' := [(1, .long (b 8 7)), (0, .ref (q 0))]) hx hb dX0_clean_16 rfl hl (by decide) rfl (fun ls hl => ?_)
    refine lv_aload_n hx hb dX0_clean_17 rfl (lv_at hl 1 rfl) ?_
    refine va_get (D := D) (ci := 0) (v := .ref (q 8)) (C := RX0) (T := TX0) (N := 18) hx hb hts iw_X0 hown hK hP 0 rfl rfl 7 (by decide) (hts _ kf_X0_23) (fun _ h9 => h9) rfl dX0_clean_18 ?_
    refine lv_bipush (v := 7) hx hb dX0_clean_21 (by decide) ?_
    refine lv_lconst (v := 0) hx hb dX0_clean_23 (by decide) ?_
    refine za_last (k := 7) (x := 0) (f := (b 8)) hx hb hK hP hD hS 8 1 rfl rfl rfl (by decide) (by decide) dX0_clean_24 (fun H locs hP hD hS => ?_)
    have hP : va_P D vwCl (wL g q n a (va_up b 8 (vp_updL (b 8) 7 0)) v) H := hP
    have hD : va_D A (wL g q n a (va_up b 8 (vp_updL (b 8) 7 0)) v) := hD
    refine lv_iconst (v := 0) hx hb dX0_clean_25 (by decide) ?_
    refine lv_istore_n (lv' := [(3, .int 0), (1, .long (b 8 7)), (0, .ref (q 0))]) hx hb dX0_clean_26 rfl hl (by decide) rfl (fun ls hl => ?_)
    have lp_27 : ∀ (t_27 i : Nat) , i + t_27 = sc → ∀ (H : Heap) (locs : List Loc) (ls : Array Slot), va_P D vwCl (wL g q n a (va_up b 8 ((m_cl (a 4) (a 5) (b 8) i).1)) v) H → va_D A (wL g q n a (va_up b 8 ((m_cl (a 4) (a 5) (b 8) i).1)) v) → va_S A s.heap H locs → lv_has ls 8 [(3, .int (nI i)), (1, .long ((m_cl (a 4) (a 5) (b 8) i).2)), (0, .ref (q 0))] → W p l e rm_clean s m args below meth cd_ H locs 0 0 Q (F0 m 27 ls []) := by
      intro t_27
      induction t_27 with
      | zero =>
        intro i hi_27 H locs ls hP hD hS hl
        obtain rfl : sc = i := by omega
        refine lv_iload_n hx hb dX0_clean_27 rfl (lv_at hl 0 rfl) ?_
        refine lv_aload_n hx hb dX0_clean_28 rfl (lv_at hl 2 rfl) ?_
        refine va_get (D := D) (ci := 0) (v := .int (a 0 3)) (C := RX0) (T := TX0) (N := 18) hx hb hts iw_X0 hown hK hP 0 rfl rfl 14 (by decide) (hts _ kf_X0_90) (fun _ h9 => h9) rfl dX0_clean_29 ?_
        rw [hsc]
        refine lv_icmp_ge (tgt := 98) hx hb dX0_clean_32 (by decide) (fun _ => ?_) (fun c_32 => absurd (nI_le (Nat.le_refl _) (by omega)) c_32)
        refine lv_lload_n hx hb dX0_clean_98 rfl (lv_at hl 1 rfl) ?_
        exact hret ((m_cl (a 4) (a 5) (b 8) sc).2) (va_up b 8 ((m_cl (a 4) (a 5) (b 8) sc).1)) _ _ _ _ _ _ (by first | exact (if_pos hs0).symm | exact (if_neg hs0).symm) hP hD hS (Nat.le_of_ble_eq_true rfl) (Nat.le_of_ble_eq_true rfl) dX0_clean_99
      | succ t_27 ih_27 =>
        intro i hi_27 H locs ls hP hD hS hl
        refine lv_iload_n hx hb dX0_clean_27 rfl (lv_at hl 0 rfl) ?_
        refine lv_aload_n hx hb dX0_clean_28 rfl (lv_at hl 2 rfl) ?_
        refine va_get (D := D) (ci := 0) (v := .int (a 0 3)) (C := RX0) (T := TX0) (N := 18) hx hb hts iw_X0 hown hK hP 0 rfl rfl 14 (by decide) (hts _ kf_X0_90) (fun _ h9 => h9) rfl dX0_clean_29 ?_
        rw [hsc]
        refine lv_icmp_ge (tgt := 98) hx hb dX0_clean_32 (by decide) (fun c_32 => absurd c_32 (nI_ge (by omega) (by omega))) (fun _ => ?_)
        refine lv_aload_n hx hb dX0_clean_35 rfl (lv_at hl 2 rfl) ?_
        refine va_get (D := D) (ci := 0) (v := .ref (q 4)) (C := RX0) (T := TX0) (N := 18) hx hb hts iw_X0 hown hK hP 0 rfl rfl 3 (by decide) (hts _ kf_X0_9) (fun _ h9 => h9) rfl dX0_clean_36 ?_
        refine lv_iload_n hx hb dX0_clean_39 rfl (lv_at hl 0 rfl) ?_
        refine za_iald (k := i) (f := (a 4)) (v := a 4 i) hx hb hK hP 4 0 rfl rfl rfl (by omega) (by decide) rfl dX0_clean_40 ?_
        refine lv_i2l (v := (a 4 i).toInt64) hx hb dX0_clean_41 rfl ?_
        refine lv_lload_n hx hb dX0_clean_42 rfl (lv_at hl 1 rfl) ?_
        refine va_mmin_long hx hb (hml.trans hl.1.symm) hown (hts _ kl_X0_179) (hts _ ks_min_long) (hts _ ki_Math) (hts _ kc_min_long) (Nat.le_of_ble_eq_true rfl) (Nat.le_of_ble_eq_true rfl) (Nat.le_of_ble_eq_true rfl) (Nat.le_of_ble_eq_true rfl) dX0_clean_43 ?_
        refine lv_lstore (lv' := [(4, .long (m_min ((a 4 i).toInt64) ((m_cl (a 4) (a 5) (b 8) i).2))), (3, .int (nI i)), (1, .long ((m_cl (a 4) (a 5) (b 8) i).2)), (0, .ref (q 0))]) hx hb dX0_clean_46 hl (by decide) rfl (fun ls hl => ?_)
        refine lv_aload_n hx hb dX0_clean_48 rfl (lv_at hl 3 rfl) ?_
        refine va_get (D := D) (ci := 0) (v := .ref (q 5)) (C := RX0) (T := TX0) (N := 18) hx hb hts iw_X0 hown hK hP 0 rfl rfl 4 (by decide) (hts _ kf_X0_13) (fun _ h9 => h9) rfl dX0_clean_49 ?_
        refine lv_iload_n hx hb dX0_clean_52 rfl (lv_at hl 1 rfl) ?_
        refine za_iald (k := i) (f := (a 5)) (v := a 5 i) hx hb hK hP 5 0 rfl rfl rfl (by omega) (by decide) rfl dX0_clean_53 ?_
        refine lv_lload hx hb dX0_clean_54 (lv_at hl 0 rfl) ?_
        refine zk_pl (rest := []) C0 hP hD hS (c_partsOf l D (tyG g) (a 5 i) (m_min ((a 4 i).toInt64) ((m_cl (a 4) (a 5) (b 8) i).2))) kk_X0_169 hl.1 rfl rfl (Nat.le_of_ble_eq_true rfl) ⟨(Nat.le_of_ble_eq_true rfl), (Nat.le_of_ble_eq_true rfl)⟩ rfl rfl ⟨(Nat.le_of_ble_eq_true rfl), (Nat.le_of_ble_eq_true rfl)⟩ dX0_clean_56 (fun r_56 H locs hw_56 hP hS => ?_)
        obtain rfl := hw_56
        refine lv_lstore (lv' := [(6, .long (m_of (a 5 i) (m_min ((a 4 i).toInt64) ((m_cl (a 4) (a 5) (b 8) i).2)))), (4, .long (m_min ((a 4 i).toInt64) ((m_cl (a 4) (a 5) (b 8) i).2))), (3, .int (nI i)), (1, .long ((m_cl (a 4) (a 5) (b 8) i).2)), (0, .ref (q 0))]) hx hb dX0_clean_59 hl (by decide) rfl (fun ls hl => ?_)
        refine lv_aload_n hx hb dX0_clean_61 rfl (lv_at hl 4 rfl) ?_
        refine va_get (D := D) (ci := 0) (v := .ref (q 8)) (C := RX0) (T := TX0) (N := 18) hx hb hts iw_X0 hown hK hP 0 rfl rfl 7 (by decide) (hts _ kf_X0_23) (fun _ h9 => h9) rfl dX0_clean_62 ?_
        refine lv_bipush (v := 7) hx hb dX0_clean_65 (by decide) ?_
        refine lv_dup2_11 hx hb dX0_clean_67 rfl rfl ?_
        refine za_lald (k := 7) (f := ((m_cl (a 4) (a 5) (b 8) i).1)) (v := (m_cl (a 4) (a 5) (b 8) i).1 7) hx hb hK hP 8 1 rfl rfl rfl (by decide) (by decide) rfl dX0_clean_68 ?_
        refine lv_lload_n hx hb dX0_clean_69 rfl (lv_at hl 3 rfl) ?_
        refine lv_lload hx hb dX0_clean_70 (lv_at hl 1 rfl) ?_
        refine lv_lsub hx hb dX0_clean_72 ?_
        refine lv_ladd hx hb dX0_clean_73 ?_
        refine za_last (k := 7) (x := ((m_cl (a 4) (a 5) (b 8) i).1 7) + (((m_cl (a 4) (a 5) (b 8) i).2) - (m_min ((a 4 i).toInt64) ((m_cl (a 4) (a 5) (b 8) i).2)))) (f := ((m_cl (a 4) (a 5) (b 8) i).1)) hx hb hK hP hD hS 8 1 rfl rfl rfl (by decide) (by decide) dX0_clean_74 (fun H locs hP hD hS => ?_)
        have hP : va_P D vwCl (wL g q n a (va_up b 8 (vp_updL ((m_cl (a 4) (a 5) (b 8) i).1) 7 (((m_cl (a 4) (a 5) (b 8) i).1 7) + (((m_cl (a 4) (a 5) (b 8) i).2) - (m_min ((a 4 i).toInt64) ((m_cl (a 4) (a 5) (b 8) i).2)))))) v) H := hP
        have hD : va_D A (wL g q n a (va_up b 8 (vp_updL ((m_cl (a 4) (a 5) (b 8) i).1) 7 (((m_cl (a 4) (a 5) (b 8) i).1 7) + (((m_cl (a 4) (a 5) (b 8) i).2) - (m_min ((a 4 i).toInt64) ((m_cl (a 4) (a 5) (b 8) i).2)))))) v) := hD
        refine lv_aload_n hx hb dX0_clean_75 rfl (lv_at hl 4 rfl) ?_
        refine va_get (D := D) (ci := 0) (v := .ref (q 8)) (C := RX0) (T := TX0) (N := 18) hx hb hts iw_X0 hown hK hP 0 rfl rfl 7 (by decide) (hts _ kf_X0_23) (fun _ h9 => h9) rfl dX0_clean_76 ?_
        refine lv_iconst (v := 5) hx hb dX0_clean_79 (by decide) ?_
        refine lv_dup2_11 hx hb dX0_clean_80 rfl rfl ?_
        refine za_lald (k := 5) (f := (vp_updL ((m_cl (a 4) (a 5) (b 8) i).1) 7 (((m_cl (a 4) (a 5) (b 8) i).1 7) + (((m_cl (a 4) (a 5) (b 8) i).2) - (m_min ((a 4 i).toInt64) ((m_cl (a 4) (a 5) (b 8) i).2)))))) (v := (m_cl (a 4) (a 5) (b 8) i).1 5) hx hb hK hP 8 1 rfl rfl rfl (by decide) (by decide) rfl dX0_clean_81 ?_
        refine lv_lload hx hb dX0_clean_82 (lv_at hl 0 rfl) ?_
        refine lv_ladd hx hb dX0_clean_84 ?_
        refine za_last (k := 5) (x := ((m_cl (a 4) (a 5) (b 8) i).1 5) + (m_of (a 5 i) (m_min ((a 4 i).toInt64) ((m_cl (a 4) (a 5) (b 8) i).2)))) (f := (vp_updL ((m_cl (a 4) (a 5) (b 8) i).1) 7 (((m_cl (a 4) (a 5) (b 8) i).1 7) + (((m_cl (a 4) (a 5) (b 8) i).2) - (m_min ((a 4 i).toInt64) ((m_cl (a 4) (a 5) (b 8) i).2)))))) hx hb hK hP hD hS 8 1 rfl rfl rfl (by decide) (by decide) dX0_clean_85 (fun H locs hP hD hS => ?_)
        have hP : va_P D vwCl (wL g q n a (va_up b 8 (vp_updL (vp_updL ((m_cl (a 4) (a 5) (b 8) i).1) 7 (((m_cl (a 4) (a 5) (b 8) i).1 7) + (((m_cl (a 4) (a 5) (b 8) i).2) - (m_min ((a 4 i).toInt64) ((m_cl (a 4) (a 5) (b 8) i).2))))) 5 (((m_cl (a 4) (a 5) (b 8) i).1 5) + (m_of (a 5 i) (m_min ((a 4 i).toInt64) ((m_cl (a 4) (a 5) (b 8) i).2)))))) v) H := hP
        have hD : va_D A (wL g q n a (va_up b 8 (vp_updL (vp_updL ((m_cl (a 4) (a 5) (b 8) i).1) 7 (((m_cl (a 4) (a 5) (b 8) i).1 7) + (((m_cl (a 4) (a 5) (b 8) i).2) - (m_min ((a 4 i).toInt64) ((m_cl (a 4) (a 5) (b 8) i).2))))) 5 (((m_cl (a 4) (a 5) (b 8) i).1 5) + (m_of (a 5 i) (m_min ((a 4 i).toInt64) ((m_cl (a 4) (a 5) (b 8) i).2)))))) v) := hD
        refine lv_lload hx hb dX0_clean_86 (lv_at hl 1 rfl) ?_
        refine lv_lload hx hb dX0_clean_88 (lv_at hl 0 rfl) ?_
        refine lv_lsub hx hb dX0_clean_90 ?_
        refine lv_lstore_n (lv' := [(1, .long ((m_min ((a 4 i).toInt64) ((m_cl (a 4) (a 5) (b 8) i).2)) - (m_of (a 5 i) (m_min ((a 4 i).toInt64) ((m_cl (a 4) (a 5) (b 8) i).2))))), (6, .long (m_of (a 5 i) (m_min ((a 4 i).toInt64) ((m_cl (a 4) (a 5) (b 8) i).2)))), (4, .long (m_min ((a 4 i).toInt64) ((m_cl (a 4) (a 5) (b 8) i).2))), (3, .int (nI i)), (0, .ref (q 0))]) hx hb dX0_clean_91 rfl hl (by decide) rfl (fun ls hl => ?_)
        refine lv_iinc (v := nI (i + 1)) (lv' := [(3, .int (nI (i + 1))), (1, .long ((m_min ((a 4 i).toInt64) ((m_cl (a 4) (a 5) (b 8) i).2)) - (m_of (a 5 i) (m_min ((a 4 i).toInt64) ((m_cl (a 4) (a 5) (b 8) i).2))))), (6, .long (m_of (a 5 i) (m_min ((a 4 i).toInt64) ((m_cl (a 4) (a 5) (b 8) i).2)))), (4, .long (m_min ((a 4 i).toInt64) ((m_cl (a 4) (a 5) (b 8) i).2))), (0, .ref (q 0))]) hx hb dX0_clean_92 hl (k := 3) rfl (nI_1 i) (by decide) rfl (fun ls hl => ?_)
        refine lv_goto (tgt := 27) hx hb dX0_clean_95 (by decide) ?_
        have hP : va_P D vwCl (wL g q n a (va_up b 8 ((m_cl (a 4) (a 5) (b 8) (i + 1)).1)) v) _ := hP
        have hD : va_D A (wL g q n a (va_up b 8 ((m_cl (a 4) (a 5) (b 8) (i + 1)).1)) v) := hD
        have hl : lv_has ls 8 [(3, .int (nI (i + 1))), (1, .long ((m_cl (a 4) (a 5) (b 8) (i + 1)).2)), (0, .ref (q 0))] := lv_sub hl [0, 1, 4] rfl
        exact ih_27 (i + 1)  (by omega)  _ _ _ hP hD hS hl
    exact lp_27 (sc - 0) 0  (by omega)  _ _ _ hP hD hS (lv_sub hl [0, 1, 2] rfl)
  · -- on at 4
    have hs0 : sc = 0 := by have h1 := c_4; rcases Nat.eq_zero_or_pos sc with h | h; exact h; exact absurd h1 (nI_ne0 h (by omega))
    refine lv_lconst (v := 0) hx hb dX0_clean_7 (by decide) ?_
    exact hret 0 b _ _ _ _ _ _ (by first | exact (if_pos hs0).symm | exact (if_neg hs0).symm) hP hD hS (Nat.le_of_ble_eq_true rfl) (Nat.le_of_ble_eq_true rfl) dX0_clean_8
def rm_partAtTheEnd : Room := { frames := 1, cells := 0, slots := 0, locals := 22 }
set_option maxHeartbeats 4000000 in
set_option maxRecDepth 100000 in
theorem c_partAtTheEnd (l : Launch) (D : va_G) (g : Nat → ClassId) (q : Nat → Nat) (n : Nat) (a : Nat → Nat → Int32) (b : Nat → Nat → Int64) (v : Nat → Nat → Int32) (x : Int64) : zc_l l D (tyG g) yX0_partAtTheEnd cX0_partAtTheEnd 7 (some .long) rm_partAtTheEnd [.ref (q 0), .long x] (wL g q n a b v) (fun (r : Int64) (u : (Nat → Nat → Int64)) => (r, u) = m_part a b x) (fun u => wL g q n a u v) 0 0 := by
  refine zl_of (by decide) (Nat.le_of_ble_eq_true rfl) rfl ?_
  intro p e s m args below meth cd_ A Q ls C0 hnm hP hD hS hl hret
  obtain ⟨hx, hb, hr, hml, hlocks, hown, hts, hK, hA, hN⟩ := id C0
  have hl : lv_has ls 7 [(0, .ref (q 0)), (1, .long x)] := hl
  refine lv_aload_n hx hb dX0_partAtTheEnd_0 rfl (lv_at hl 0 rfl) ?_
  refine va_get (D := D) (ci := 0) (v := .int (a 0 2)) (C := RX0) (T := TX0) (N := 18) hx hb hts iw_X0 hown hK hP 0 rfl rfl 12 (by decide) (hts _ kf_X0_82) (fun _ h9 => h9) rfl dX0_partAtTheEnd_1 ?_
  refine lv_lload_n hx hb dX0_partAtTheEnd_4 rfl (lv_at hl 1 rfl) ?_
  refine zk_pl (rest := []) C0 hP hD hS (c_partsOf l D (tyG g) (a 0 2) x) kk_X0_169 hl.1 rfl rfl (Nat.le_of_ble_eq_true rfl) ⟨(Nat.le_of_ble_eq_true rfl), (Nat.le_of_ble_eq_true rfl)⟩ rfl rfl ⟨(Nat.le_of_ble_eq_true rfl), (Nat.le_of_ble_eq_true rfl)⟩ dX0_partAtTheEnd_5 (fun r_5 H locs hw_5 hP hS => ?_)
  obtain rfl := hw_5
  refine lv_lstore_n (lv' := [(3, .long (m_of (a 0 2) x)), (0, .ref (q 0)), (1, .long x)]) hx hb dX0_partAtTheEnd_8 rfl hl (by decide) rfl (fun ls hl => ?_)
  refine lv_lload_n hx hb dX0_partAtTheEnd_9 rfl (lv_at hl 2 rfl) ?_
  refine lv_lload_n hx hb dX0_partAtTheEnd_10 rfl (lv_at hl 0 rfl) ?_
  refine lv_lsub hx hb dX0_partAtTheEnd_11 ?_
  refine lv_lstore (lv' := [(5, .long (x - (m_of (a 0 2) x))), (3, .long (m_of (a 0 2) x)), (0, .ref (q 0)), (1, .long x)]) hx hb dX0_partAtTheEnd_12 hl (by decide) rfl (fun ls hl => ?_)
  refine lv_aload_n hx hb dX0_partAtTheEnd_14 rfl (lv_at hl 2 rfl) ?_
  refine va_get (D := D) (ci := 0) (v := .ref (q 8)) (C := RX0) (T := TX0) (N := 18) hx hb hts iw_X0 hown hK hP 0 rfl rfl 7 (by decide) (hts _ kf_X0_23) (fun _ h9 => h9) rfl dX0_partAtTheEnd_15 ?_
  refine lv_bipush (v := 8) hx hb dX0_partAtTheEnd_18 (by decide) ?_
  refine lv_lload_n hx hb dX0_partAtTheEnd_20 rfl (lv_at hl 1 rfl) ?_
  refine za_last (k := 8) (x := m_of (a 0 2) x) (f := (b 8)) hx hb hK hP hD hS 8 1 rfl rfl rfl (by decide) (by decide) dX0_partAtTheEnd_21 (fun H locs hP hD hS => ?_)
  have hP : va_P D vwCl (wL g q n a (va_up b 8 (vp_updL (b 8) 8 (m_of (a 0 2) x))) v) H := hP
  have hD : va_D A (wL g q n a (va_up b 8 (vp_updL (b 8) 8 (m_of (a 0 2) x))) v) := hD
  refine lv_aload_n hx hb dX0_partAtTheEnd_22 rfl (lv_at hl 2 rfl) ?_
  refine va_get (D := D) (ci := 0) (v := .ref (q 8)) (C := RX0) (T := TX0) (N := 18) hx hb hts iw_X0 hown hK hP 0 rfl rfl 7 (by decide) (hts _ kf_X0_23) (fun _ h9 => h9) rfl dX0_partAtTheEnd_23 ?_
  refine lv_bipush (v := 6) hx hb dX0_partAtTheEnd_26 (by decide) ?_
  refine lv_dup2_11 hx hb dX0_partAtTheEnd_28 rfl rfl ?_
  refine za_lald (k := 6) (f := (vp_updL (b 8) 8 (m_of (a 0 2) x))) (v := b 8 6) hx hb hK hP 8 1 rfl rfl rfl (by decide) (by decide) rfl dX0_partAtTheEnd_29 ?_
  refine lv_lload hx hb dX0_partAtTheEnd_30 (lv_at hl 0 rfl) ?_
  refine lv_ladd hx hb dX0_partAtTheEnd_32 ?_
  refine za_last (k := 6) (x := (b 8 6) + (x - (m_of (a 0 2) x))) (f := (vp_updL (b 8) 8 (m_of (a 0 2) x))) hx hb hK hP hD hS 8 1 rfl rfl rfl (by decide) (by decide) dX0_partAtTheEnd_33 (fun H locs hP hD hS => ?_)
  have hP : va_P D vwCl (wL g q n a (va_up b 8 (vp_updL (vp_updL (b 8) 8 (m_of (a 0 2) x)) 6 ((b 8 6) + (x - (m_of (a 0 2) x))))) v) H := hP
  have hD : va_D A (wL g q n a (va_up b 8 (vp_updL (vp_updL (b 8) 8 (m_of (a 0 2) x)) 6 ((b 8 6) + (x - (m_of (a 0 2) x))))) v) := hD
  refine lv_lload hx hb dX0_partAtTheEnd_34 (lv_at hl 0 rfl) ?_
  exact hret (x - (m_of (a 0 2) x)) (va_up b 8 (vp_updL (vp_updL (b 8) 8 (m_of (a 0 2) x)) 6 ((b 8 6) + (x - (m_of (a 0 2) x))))) _ _ _ _ _ _ rfl hP hD hS (Nat.le_of_ble_eq_true rfl) (Nat.le_of_ble_eq_true rfl) dX0_partAtTheEnd_36
def rm_runNextDay : Room := { frames := 2, cells := 0, slots := 0, locals := 51 }
set_option maxHeartbeats 4000000 in
set_option maxRecDepth 100000 in
theorem c_runNextDay (l : Launch) (D : va_G) (g : Nat → ClassId) (q : Nat → Nat) (n : Nat) (a : Nat → Nat → Int32) (b : Nat → Nat → Int64) (v : Nat → Nat → Int32) (hn : 1 ≤ n ∧ n ≤ 6) (sc : Nat) (hsc : a 0 3 = nI sc) (hsc4 : sc ≤ 4) (d : Nat) (hd : a 0 4 = nI d) (hd4 : d < 400) : zc_v l D (tyG g) yX0_runNextDay cX0_runNextDay 5 none rm_runNextDay [.ref (q 0)] (wL g q n a b v) (fun (u : (Nat → Nat → Int64)) => u = m_day n sc a b d) (fun u => wL g q n (va_up a 0 (upd (a 0) 4 (nI (d + 1)))) u v) 0 0 := by
  refine zv_of (by decide) (Nat.le_of_ble_eq_true rfl) rfl ?_
  intro p e s m args below meth cd_ A Q ls C0 hnm hP hD hS hl hret
  obtain ⟨hx, hb, hr, hml, hlocks, hown, hts, hK, hA, hN⟩ := id C0
  have hl : lv_has ls 5 [(0, .ref (q 0))] := hl
  refine lv_aload_n hx hb dX0_runNextDay_0 rfl (lv_at hl 0 rfl) ?_
  refine lv_aload_n hx hb dX0_runNextDay_1 rfl (lv_at hl 0 rfl) ?_
  refine va_get (D := D) (ci := 0) (v := .ref (q 6)) (C := RX0) (T := TX0) (N := 18) hx hb hts iw_X0 hown hK hP 0 rfl rfl 5 (by decide) (hts _ kf_X0_16) (fun _ h9 => h9) rfl dX0_runNextDay_2 ?_
  refine lv_aload_n hx hb dX0_runNextDay_5 rfl (lv_at hl 0 rfl) ?_
  refine va_get (D := D) (ci := 0) (v := .int (a 0 4)) (C := RX0) (T := TX0) (N := 18) hx hb hts iw_X0 hown hK hP 0 rfl rfl 15 (by decide) (hts _ kf_X0_93) (fun _ h9 => h9) rfl dX0_runNextDay_6 ?_
  rw [hd]
  refine za_iald (k := d) (f := (a 6)) (v := a 6 d) hx hb hK hP 6 0 rfl rfl rfl (by omega) (by decide) rfl dX0_runNextDay_9 ?_
  refine lv_i2l (v := (a 6 d).toInt64) hx hb dX0_runNextDay_10 rfl ?_
  refine zf_vv (rest := []) C0 hP hD hS (c_comeIn l D g q n a b v hn ((a 6 d).toInt64)) kk_X0_151 kv_X0_151 0 rfl 0 rfl hl.1 rfl rfl (Nat.le_of_ble_eq_true rfl) ⟨(Nat.le_of_ble_eq_true rfl), (Nat.le_of_ble_eq_true rfl)⟩ rfl rfl ⟨(Nat.le_of_ble_eq_true rfl), (Nat.le_of_ble_eq_true rfl)⟩ dX0_runNextDay_11 (fun u_11 H locs hw_11 hP hD hS => ?_)
  refine lv_aload_n hx hb dX0_runNextDay_14 rfl (lv_at hl 0 rfl) ?_
  refine zf_vl (rest := []) C0 hP hD hS (c_passDown l D g q n a u_11 v hn) kk_X0_155 kv_X0_155 0 rfl 0 rfl hl.1 rfl rfl (Nat.le_of_ble_eq_true rfl) ⟨(Nat.le_of_ble_eq_true rfl), (Nat.le_of_ble_eq_true rfl)⟩ rfl rfl ⟨(Nat.le_of_ble_eq_true rfl), (Nat.le_of_ble_eq_true rfl)⟩ dX0_runNextDay_15 (fun r_15 u_15 H locs hw_15 hP hD hS => ?_)
  refine lv_lstore_n (lv' := [(1, .long r_15), (0, .ref (q 0))]) hx hb dX0_runNextDay_18 rfl hl (by decide) rfl (fun ls hl => ?_)
  refine lv_aload_n hx hb dX0_runNextDay_19 rfl (lv_at hl 1 rfl) ?_
  refine lv_lload_n hx hb dX0_runNextDay_20 rfl (lv_at hl 0 rfl) ?_
  refine zf_vv (rest := []) C0 hP hD hS (c_fillTank l D g q n a u_15 v r_15) kk_X0_159 kv_X0_159 0 rfl 0 rfl hl.1 rfl rfl (Nat.le_of_ble_eq_true rfl) ⟨(Nat.le_of_ble_eq_true rfl), (Nat.le_of_ble_eq_true rfl)⟩ rfl rfl ⟨(Nat.le_of_ble_eq_true rfl), (Nat.le_of_ble_eq_true rfl)⟩ dX0_runNextDay_21 (fun u_21 H locs hw_21 hP hD hS => ?_)
  refine lv_aload_n hx hb dX0_runNextDay_24 rfl (lv_at hl 1 rfl) ?_
  refine zf_vl (rest := []) C0 hP hD hS (c_clean l D g q n a u_21 v sc hsc hsc4) kk_X0_162 kv_X0_162 0 rfl 0 rfl hl.1 rfl rfl (Nat.le_of_ble_eq_true rfl) ⟨(Nat.le_of_ble_eq_true rfl), (Nat.le_of_ble_eq_true rfl)⟩ rfl rfl ⟨(Nat.le_of_ble_eq_true rfl), (Nat.le_of_ble_eq_true rfl)⟩ dX0_runNextDay_25 (fun r_25 u_25 H locs hw_25 hP hD hS => ?_)
  refine lv_lstore_n (lv' := [(3, .long r_25), (1, .long r_15), (0, .ref (q 0))]) hx hb dX0_runNextDay_28 rfl hl (by decide) rfl (fun ls hl => ?_)
  refine lv_aload_n hx hb dX0_runNextDay_29 rfl (lv_at hl 2 rfl) ?_
  refine va_get (D := D) (ci := 0) (v := .ref (q 7)) (C := RX0) (T := TX0) (N := 18) hx hb hts iw_X0 hown hK hP 0 rfl rfl 6 (by decide) (hts _ kf_X0_19) (fun _ h9 => h9) rfl dX0_runNextDay_30 ?_
  refine lv_aload_n hx hb dX0_runNextDay_33 rfl (lv_at hl 2 rfl) ?_
  refine va_get (D := D) (ci := 0) (v := .int (a 0 4)) (C := RX0) (T := TX0) (N := 18) hx hb hts iw_X0 hown hK hP 0 rfl rfl 15 (by decide) (hts _ kf_X0_93) (fun _ h9 => h9) rfl dX0_runNextDay_34 ?_
  rw [hd]
  refine lv_aload_n hx hb dX0_runNextDay_37 rfl (lv_at hl 2 rfl) ?_
  refine lv_lload_n hx hb dX0_runNextDay_38 rfl (lv_at hl 0 rfl) ?_
  refine zf_vl (rest := [.int (nI d), .ref (q 7)]) C0 hP hD hS (c_partAtTheEnd l D g q n a u_25 v r_25) kk_X0_165 kv_X0_165 0 rfl 0 rfl hl.1 rfl rfl (Nat.le_of_ble_eq_true rfl) ⟨(Nat.le_of_ble_eq_true rfl), (Nat.le_of_ble_eq_true rfl)⟩ rfl rfl ⟨(Nat.le_of_ble_eq_true rfl), (Nat.le_of_ble_eq_true rfl)⟩ dX0_runNextDay_39 (fun r_39 u_39 H locs hw_39 hP hD hS => ?_)
  refine za_last (k := d) (x := r_39) (f := (u_39 7)) hx hb hK hP hD hS 7 1 rfl rfl rfl (by omega) (by decide) dX0_runNextDay_42 (fun H locs hP hD hS => ?_)
  have hP : va_P D vwCl (wL g q n a (va_up u_39 7 (vp_updL (u_39 7) d r_39)) v) H := hP
  have hD : va_D A (wL g q n a (va_up u_39 7 (vp_updL (u_39 7) d r_39)) v) := hD
  refine lv_aload_n hx hb dX0_runNextDay_43 rfl (lv_at hl 2 rfl) ?_
  refine lv_dup hx hb dX0_runNextDay_44 rfl ?_
  refine va_get (D := D) (ci := 0) (v := .int (a 0 4)) (C := RX0) (T := TX0) (N := 18) hx hb hts iw_X0 hown hK hP 0 rfl rfl 15 (by decide) (hts _ kf_X0_93) (fun _ h9 => h9) rfl dX0_runNextDay_45 ?_
  rw [hd]
  refine lv_iconst (v := 1) hx hb dX0_runNextDay_48 (by decide) ?_
  refine lv_iadd hx hb dX0_runNextDay_49 ?_
  rw [show (nI d) + 1 = nI (d + 1) from nI_1 d]
  refine va_put (D := D) (ci := 0) (v := .int (nI (d + 1))) (ty := .int) (C := RX0) (T := TX0) (N := 18) hx hb hts iw_X0 tyX0 tyok_X0 nm_X0 hown hK hP hD hS 0 rfl rfl 15 (by decide) (hts _ kf_X0_93) (fun _ h9 => h9) rfl (by decide +kernel) rfl rfl (Nat.le_of_ble_eq_true rfl) dX0_runNextDay_50 (fun H locs hP hD hS => ?_)
  have hP : va_P D vwCl (wL g q n (va_up a 0 (upd (a 0) 4 (nI (d + 1)))) (va_up u_39 7 (vp_updL (u_39 7) d r_39)) v) H := hP
  have hD : va_D A (wL g q n (va_up a 0 (upd (a 0) 4 (nI (d + 1)))) (va_up u_39 7 (vp_updL (u_39 7) d r_39)) v) := hD
  exact hret (va_up u_39 7 (vp_updL (u_39 7) d r_39)) _ _ _ _ _ _ (by obtain rfl := hw_11; obtain ⟨rfl, rfl⟩ := hw_15; obtain rfl := hw_21; obtain ⟨h1, h2⟩ := Prod.mk.inj hw_25; obtain ⟨h3, h4⟩ := Prod.mk.inj hw_39; subst h1; subst h2; subst h3; subst h4; rfl) hP hD hS (Nat.le_of_ble_eq_true rfl) (Nat.le_of_ble_eq_true rfl) dX0_runNextDay_53
def rm_run : Room := { frames := 3, cells := 0, slots := 0, locals := 75 }
set_option maxHeartbeats 4000000 in
set_option maxRecDepth 100000 in
theorem c_run (l : Launch) (D : va_G) (g : Nat → ClassId) (q : Nat → Nat) (n : Nat) (a : Nat → Nat → Int32) (b : Nat → Nat → Int64) (v : Nat → Nat → Int32) (hn : 1 ≤ n ∧ n ≤ 6) (sc : Nat) (hsc : a 0 3 = nI sc) (hsc4 : sc ≤ 4) (d : Nat) (hd : a 0 4 = nI d) (hd4 : d ≤ 400) (x : Int32) : zc_i l D (tyG g) yX0_run cX0_run 3 (some .int) rm_run [.ref (q 0), .int x] (wL g q n a b v) (fun (r : Int32) (u : zS) => r = (if m_days (nI d) x = true then nI (d + x.toNatClampNeg) else -1) ∧ u = if m_days (nI d) x = true then (va_up a 0 (upd (a 0) 4 (nI (d + x.toNatClampNeg))), m_run n sc a b d x.toNatClampNeg, v) else (a, b, v)) (fun u => wL g q n u.1 u.2.1 u.2.2) 0 0 := by
  refine zi_of (by decide) (Nat.le_of_ble_eq_true rfl) rfl ?_
  intro p e s m args below meth cd_ A Q ls C0 hnm hP hD hS hl hret
  obtain ⟨hx, hb, hr, hml, hlocks, hown, hts, hK, hA, hN⟩ := id C0
  have hl : lv_has ls 3 [(0, .ref (q 0)), (1, .int x)] := hl
  refine lv_aload_n hx hb dX0_run_0 rfl (lv_at hl 0 rfl) ?_
  refine lv_iload_n hx hb dX0_run_1 rfl (lv_at hl 1 rfl) ?_
  refine zf_vi (rest := []) C0 hP hD hS (c_areDaysToRun l D g q n a b v x) kk_X0_98 kv_X0_98 0 rfl 0 rfl hl.1 rfl rfl (Nat.le_of_ble_eq_true rfl) ⟨(Nat.le_of_ble_eq_true rfl), (Nat.le_of_ble_eq_true rfl)⟩ rfl rfl ⟨(Nat.le_of_ble_eq_true rfl), (Nat.le_of_ble_eq_true rfl)⟩ dX0_run_2 (fun r_2 u_2 H locs hw_2 hP hD hS => ?_)
  obtain rfl := hw_2
  refine lv_if_ne (tgt := 10) hx hb dX0_run_5 (by decide) (fun c_5 => ?_) (fun c_5 => ?_)
  · -- jump at 5
    have c_5 := zb_t c_5
    rw [hd] at c_5
    obtain ⟨k, hk1, hk2, hk3, rfl⟩ := m_days_k hd4 c_5
    have hcl : (nI k).toNatClampNeg = k := nI_clamp (by omega)
    refine lv_iconst (v := 0) hx hb dX0_run_10 (by decide) ?_
    refine lv_istore_n (lv' := [(2, .int 0), (0, .ref (q 0)), (1, .int (nI k))]) hx hb dX0_run_11 rfl hl (by decide) rfl (fun ls hl => ?_)
    have hP : va_P D vwCl (wL g q n (va_up a 0 (upd (a 0) 4 (nI (d + 0)))) (m_run n sc a b d 0) v) H := by rw [m_nd0 hd]; exact hP
    have hD : va_D A (wL g q n (va_up a 0 (upd (a 0) 4 (nI (d + 0)))) (m_run n sc a b d 0) v) := by rw [m_nd0 hd]; exact hD
    have lp_12 : ∀ (t_12 i : Nat) , i + t_12 = k → ∀ (H : Heap) (locs : List Loc) (ls : Array Slot), va_P D vwCl (wL g q n (va_up a 0 (upd (a 0) 4 (nI (d + i)))) (m_run n sc a b d i) v) H → va_D A (wL g q n (va_up a 0 (upd (a 0) 4 (nI (d + i)))) (m_run n sc a b d i) v) → va_S A s.heap H locs → lv_has ls 3 [(2, .int (nI i)), (1, .int (nI k)), (0, .ref (q 0))] → W p l e rm_run s m args below meth cd_ H locs 0 0 Q (F0 m 12 ls []) := by
      intro t_12
      induction t_12 with
      | zero =>
        intro i hi_12 H locs ls hP hD hS hl
        obtain rfl : k = i := by omega
        refine lv_iload_n hx hb dX0_run_12 rfl (lv_at hl 0 rfl) ?_
        refine lv_iload_n hx hb dX0_run_13 rfl (lv_at hl 1 rfl) ?_
        refine lv_icmp_ge (tgt := 27) hx hb dX0_run_14 (by decide) (fun _ => ?_) (fun c_14 => absurd (nI_le (Nat.le_refl _) (by omega)) c_14)
        refine lv_aload_n hx hb dX0_run_27 rfl (lv_at hl 2 rfl) ?_
        refine va_get (D := D) (ci := 0) (v := .int ((va_up a 0 (upd (a 0) 4 (nI (d + k)))) 0 4)) (C := RX0) (T := TX0) (N := 18) hx hb hts iw_X0 hown hK hP 0 rfl rfl 15 (by decide) (hts _ kf_X0_93) (fun _ h9 => h9) rfl dX0_run_28 ?_
        exact hret ((va_up a 0 (upd (a 0) 4 (nI (d + k)))) 0 4) ((va_up a 0 (upd (a 0) 4 (nI (d + k)))), (m_run n sc a b d k), v) _ _ _ _ _ _ (vp_nar_int _) (by simp [zb, c_5, hcl]; rfl) hP hD hS (Nat.le_of_ble_eq_true rfl) (Nat.le_of_ble_eq_true rfl) dX0_run_31
      | succ t_12 ih_12 =>
        intro i hi_12 H locs ls hP hD hS hl
        refine lv_iload_n hx hb dX0_run_12 rfl (lv_at hl 0 rfl) ?_
        refine lv_iload_n hx hb dX0_run_13 rfl (lv_at hl 1 rfl) ?_
        refine lv_icmp_ge (tgt := 27) hx hb dX0_run_14 (by decide) (fun c_14 => absurd c_14 (nI_ge (by omega) (by omega))) (fun _ => ?_)
        refine lv_aload_n hx hb dX0_run_17 rfl (lv_at hl 2 rfl) ?_
        refine zf_vv (rest := []) C0 hP hD hS (c_runNextDay l D g q n (va_up a 0 (upd (a 0) 4 (nI (d + i)))) (m_run n sc a b d i) v hn sc hsc hsc4 (d + i) rfl (by omega)) kk_X0_105 kv_X0_105 0 rfl 0 rfl hl.1 rfl rfl (Nat.le_of_ble_eq_true rfl) ⟨(Nat.le_of_ble_eq_true rfl), (Nat.le_of_ble_eq_true rfl)⟩ rfl rfl ⟨(Nat.le_of_ble_eq_true rfl), (Nat.le_of_ble_eq_true rfl)⟩ dX0_run_18 (fun u_18 H locs hw_18 hP hD hS => ?_)
        obtain rfl := hw_18
        have hP : va_P D vwCl (wL g q n (va_up a 0 (upd (a 0) 4 (nI (d + (i + 1))))) (m_run n sc a b d (i + 1)) v) H := hP
        have hD : va_D A (wL g q n (va_up a 0 (upd (a 0) 4 (nI (d + (i + 1))))) (m_run n sc a b d (i + 1)) v) := hD
        refine lv_iinc (v := nI (i + 1)) (lv' := [(2, .int (nI (i + 1))), (1, .int (nI k)), (0, .ref (q 0))]) hx hb dX0_run_21 hl (k := 0) rfl (nI_1 i) (by decide) rfl (fun ls hl => ?_)
        refine lv_goto (tgt := 12) hx hb dX0_run_24 (by decide) ?_
        have hP : va_P D vwCl (wL g q n (va_up a 0 (upd (a 0) 4 (nI (d + (i + 1))))) (m_run n sc a b d (i + 1)) v) _ := hP
        have hD : va_D A (wL g q n (va_up a 0 (upd (a 0) 4 (nI (d + (i + 1))))) (m_run n sc a b d (i + 1)) v) := hD
        have hl : lv_has ls 3 [(2, .int (nI (i + 1))), (1, .int (nI k)), (0, .ref (q 0))] := lv_sub hl [0, 1, 2] rfl
        exact ih_12 (i + 1)  (by omega)  _ _ _ hP hD hS hl
    exact lp_12 (k - 0) 0  (by omega)  _ _ _ hP hD hS (lv_sub hl [0, 2, 1] rfl)
  · -- on at 5
    have c_5 := zb_f c_5
    rw [hd] at c_5
    refine lv_iconst (v := (-1)) hx hb dX0_run_8 (by decide) ?_
    exact hret (-1) (a, b, v) _ _ _ _ _ _ (vp_nar_int _) (by simp [zb, c_5]) hP hD hS (Nat.le_of_ble_eq_true rfl) (Nat.le_of_ble_eq_true rfl) dX0_run_9
end
section
def rm_cover : Room := { frames := 2, cells := 0, slots := 0, locals := 45 }
set_option maxHeartbeats 4000000 in
set_option maxRecDepth 100000 in
theorem c_cover (l : Launch) (D : va_G) (g : Nat → ClassId) (q : Nat → Nat) (n : Nat) (a : Nat → Nat → Int32) (b : Nat → Nat → Int64) (v : Nat → Nat → Int32) (x : Int32) : zc_i l D (tyG g) yX0_cover cX0_cover 2 (some .boolean) rm_cover [.ref (q 0), .int x] (wL g q n a b v) (fun (r : Int32) (u : zS) => r = zb (m_parts x) ∧ u = if (m_parts x) = true then (va_up a 0 (upd (a 0) 0 x), b, v) else (a, b, v)) (fun u => wL g q n u.1 u.2.1 u.2.2) 0 0 := by
  refine zi_of (by decide) (Nat.le_of_ble_eq_true rfl) rfl ?_
  intro p e s m args below meth cd_ A Q ls C0 hnm hP hD hS hl hret
  obtain ⟨hx, hb, hr, hml, hlocks, hown, hts, hK, hA, hN⟩ := id C0
  have hl : lv_has ls 2 [(0, .ref (q 0)), (1, .int x)] := hl
  refine lv_iload_n hx hb dX0_cover_0 rfl (lv_at hl 1 rfl) ?_
  refine zk_pi (rest := []) C0 hP hD hS (c_isParts l D (tyG g) x) kk_X0_72 hl.1 rfl rfl (Nat.le_of_ble_eq_true rfl) ⟨(Nat.le_of_ble_eq_true rfl), (Nat.le_of_ble_eq_true rfl)⟩ rfl rfl ⟨(Nat.le_of_ble_eq_true rfl), (Nat.le_of_ble_eq_true rfl)⟩ dX0_cover_1 (fun r_1 H locs hw_1 hP hS => ?_)
  obtain rfl := hw_1
  refine lv_if_ne (tgt := 9) hx hb dX0_cover_4 (by decide) (fun c_4 => ?_) (fun c_4 => ?_)
  · -- jump at 4
    have c_4 := zb_t c_4
    refine lv_aload_n hx hb dX0_cover_9 rfl (lv_at hl 0 rfl) ?_
    refine lv_iload_n hx hb dX0_cover_10 rfl (lv_at hl 1 rfl) ?_
    refine va_put (D := D) (ci := 0) (v := .int x) (ty := .int) (C := RX0) (T := TX0) (N := 18) hx hb hts iw_X0 tyX0 tyok_X0 nm_X0 hown hK hP hD hS 0 rfl rfl 10 (by decide) (hts _ kf_X0_75) (fun _ h9 => h9) rfl (by decide +kernel) rfl rfl (Nat.le_of_ble_eq_true rfl) dX0_cover_11 (fun H locs hP hD hS => ?_)
    have hP : va_P D vwCl (wL g q n (va_up a 0 (upd (a 0) 0 x)) b v) H := hP
    have hD : va_D A (wL g q n (va_up a 0 (upd (a 0) 0 x)) b v) := hD
    refine lv_iconst (v := 1) hx hb dX0_cover_14 (by decide) ?_
    exact hret 1 (va_up a 0 (upd (a 0) 0 x), b, v) _ _ _ _ _ _ rfl (by simp [zb, c_4]) hP hD hS (Nat.le_of_ble_eq_true rfl) (Nat.le_of_ble_eq_true rfl) dX0_cover_15
  · -- on at 4
    have c_4 := zb_f c_4
    refine lv_iconst (v := 0) hx hb dX0_cover_7 (by decide) ?_
    exact hret 0 (a, b, v) _ _ _ _ _ _ rfl (by simp [zb, c_4]) hP hD hS (Nat.le_of_ble_eq_true rfl) (Nat.le_of_ble_eq_true rfl) dX0_cover_8
def rm_drain : Room := { frames := 2, cells := 0, slots := 0, locals := 45 }
set_option maxHeartbeats 4000000 in
set_option maxRecDepth 100000 in
theorem c_drain (l : Launch) (D : va_G) (g : Nat → ClassId) (q : Nat → Nat) (n : Nat) (a : Nat → Nat → Int32) (b : Nat → Nat → Int64) (v : Nat → Nat → Int32) (x : Int32) : zc_i l D (tyG g) yX0_drain cX0_drain 2 (some .boolean) rm_drain [.ref (q 0), .int x] (wL g q n a b v) (fun (r : Int32) (u : zS) => r = zb (m_parts x) ∧ u = if (m_parts x) = true then (va_up a 0 (upd (a 0) 1 x), b, v) else (a, b, v)) (fun u => wL g q n u.1 u.2.1 u.2.2) 0 0 := by
  refine zi_of (by decide) (Nat.le_of_ble_eq_true rfl) rfl ?_
  intro p e s m args below meth cd_ A Q ls C0 hnm hP hD hS hl hret
  obtain ⟨hx, hb, hr, hml, hlocks, hown, hts, hK, hA, hN⟩ := id C0
  have hl : lv_has ls 2 [(0, .ref (q 0)), (1, .int x)] := hl
  refine lv_iload_n hx hb dX0_drain_0 rfl (lv_at hl 1 rfl) ?_
  refine zk_pi (rest := []) C0 hP hD hS (c_isParts l D (tyG g) x) kk_X0_72 hl.1 rfl rfl (Nat.le_of_ble_eq_true rfl) ⟨(Nat.le_of_ble_eq_true rfl), (Nat.le_of_ble_eq_true rfl)⟩ rfl rfl ⟨(Nat.le_of_ble_eq_true rfl), (Nat.le_of_ble_eq_true rfl)⟩ dX0_drain_1 (fun r_1 H locs hw_1 hP hS => ?_)
  obtain rfl := hw_1
  refine lv_if_ne (tgt := 9) hx hb dX0_drain_4 (by decide) (fun c_4 => ?_) (fun c_4 => ?_)
  · -- jump at 4
    have c_4 := zb_t c_4
    refine lv_aload_n hx hb dX0_drain_9 rfl (lv_at hl 0 rfl) ?_
    refine lv_iload_n hx hb dX0_drain_10 rfl (lv_at hl 1 rfl) ?_
    refine va_put (D := D) (ci := 0) (v := .int x) (ty := .int) (C := RX0) (T := TX0) (N := 18) hx hb hts iw_X0 tyX0 tyok_X0 nm_X0 hown hK hP hD hS 0 rfl rfl 11 (by decide) (hts _ kf_X0_79) (fun _ h9 => h9) rfl (by decide +kernel) rfl rfl (Nat.le_of_ble_eq_true rfl) dX0_drain_11 (fun H locs hP hD hS => ?_)
    have hP : va_P D vwCl (wL g q n (va_up a 0 (upd (a 0) 1 x)) b v) H := hP
    have hD : va_D A (wL g q n (va_up a 0 (upd (a 0) 1 x)) b v) := hD
    refine lv_iconst (v := 1) hx hb dX0_drain_14 (by decide) ?_
    exact hret 1 (va_up a 0 (upd (a 0) 1 x), b, v) _ _ _ _ _ _ rfl (by simp [zb, c_4]) hP hD hS (Nat.le_of_ble_eq_true rfl) (Nat.le_of_ble_eq_true rfl) dX0_drain_15
  · -- on at 4
    have c_4 := zb_f c_4
    refine lv_iconst (v := 0) hx hb dX0_drain_7 (by decide) ?_
    exact hret 0 (a, b, v) _ _ _ _ _ _ rfl (by simp [zb, c_4]) hP hD hS (Nat.le_of_ble_eq_true rfl) (Nat.le_of_ble_eq_true rfl) dX0_drain_8
def rm_back : Room := { frames := 2, cells := 0, slots := 0, locals := 45 }
set_option maxHeartbeats 4000000 in
set_option maxRecDepth 100000 in
theorem c_back (l : Launch) (D : va_G) (g : Nat → ClassId) (q : Nat → Nat) (n : Nat) (a : Nat → Nat → Int32) (b : Nat → Nat → Int64) (v : Nat → Nat → Int32) (x : Int32) : zc_i l D (tyG g) yX0_back cX0_back 2 (some .boolean) rm_back [.ref (q 0), .int x] (wL g q n a b v) (fun (r : Int32) (u : zS) => r = zb (m_parts x) ∧ u = if (m_parts x) = true then (va_up a 0 (upd (a 0) 2 x), b, v) else (a, b, v)) (fun u => wL g q n u.1 u.2.1 u.2.2) 0 0 := by
  refine zi_of (by decide) (Nat.le_of_ble_eq_true rfl) rfl ?_
  intro p e s m args below meth cd_ A Q ls C0 hnm hP hD hS hl hret
  obtain ⟨hx, hb, hr, hml, hlocks, hown, hts, hK, hA, hN⟩ := id C0
  have hl : lv_has ls 2 [(0, .ref (q 0)), (1, .int x)] := hl
  refine lv_iload_n hx hb dX0_back_0 rfl (lv_at hl 1 rfl) ?_
  refine zk_pi (rest := []) C0 hP hD hS (c_isParts l D (tyG g) x) kk_X0_72 hl.1 rfl rfl (Nat.le_of_ble_eq_true rfl) ⟨(Nat.le_of_ble_eq_true rfl), (Nat.le_of_ble_eq_true rfl)⟩ rfl rfl ⟨(Nat.le_of_ble_eq_true rfl), (Nat.le_of_ble_eq_true rfl)⟩ dX0_back_1 (fun r_1 H locs hw_1 hP hS => ?_)
  obtain rfl := hw_1
  refine lv_if_ne (tgt := 9) hx hb dX0_back_4 (by decide) (fun c_4 => ?_) (fun c_4 => ?_)
  · -- jump at 4
    have c_4 := zb_t c_4
    refine lv_aload_n hx hb dX0_back_9 rfl (lv_at hl 0 rfl) ?_
    refine lv_iload_n hx hb dX0_back_10 rfl (lv_at hl 1 rfl) ?_
    refine va_put (D := D) (ci := 0) (v := .int x) (ty := .int) (C := RX0) (T := TX0) (N := 18) hx hb hts iw_X0 tyX0 tyok_X0 nm_X0 hown hK hP hD hS 0 rfl rfl 12 (by decide) (hts _ kf_X0_82) (fun _ h9 => h9) rfl (by decide +kernel) rfl rfl (Nat.le_of_ble_eq_true rfl) dX0_back_11 (fun H locs hP hD hS => ?_)
    have hP : va_P D vwCl (wL g q n (va_up a 0 (upd (a 0) 2 x)) b v) H := hP
    have hD : va_D A (wL g q n (va_up a 0 (upd (a 0) 2 x)) b v) := hD
    refine lv_iconst (v := 1) hx hb dX0_back_14 (by decide) ?_
    exact hret 1 (va_up a 0 (upd (a 0) 2 x), b, v) _ _ _ _ _ _ rfl (by simp [zb, c_4]) hP hD hS (Nat.le_of_ble_eq_true rfl) (Nat.le_of_ble_eq_true rfl) dX0_back_15
  · -- on at 4
    have c_4 := zb_f c_4
    refine lv_iconst (v := 0) hx hb dX0_back_7 (by decide) ?_
    exact hret 0 (a, b, v) _ _ _ _ _ _ rfl (by simp [zb, c_4]) hP hD hS (Nat.le_of_ble_eq_true rfl) (Nat.le_of_ble_eq_true rfl) dX0_back_8
def rm_tank : Room := { frames := 1, cells := 0, slots := 0, locals := 25 }
set_option maxHeartbeats 4000000 in
set_option maxRecDepth 100000 in
theorem c_tank (l : Launch) (D : va_G) (g : Nat → ClassId) (q : Nat → Nat) (n : Nat) (a : Nat → Nat → Int32) (b : Nat → Nat → Int64) (v : Nat → Nat → Int32) (x : Int64) : zc_i l D (tyG g) yX0_tank cX0_tank 3 (some .boolean) rm_tank [.ref (q 0), .long x] (wL g q n a b v) (fun (r : Int32) (u : zS) => r = zb (m_within x 0 1000000000) ∧ u = if (m_within x 0 1000000000) = true then (a, va_up b 0 (vp_updL (b 0) 0 x), v) else (a, b, v)) (fun u => wL g q n u.1 u.2.1 u.2.2) 0 0 := by
  refine zi_of (by decide) (Nat.le_of_ble_eq_true rfl) rfl ?_
  intro p e s m args below meth cd_ A Q ls C0 hnm hP hD hS hl hret
  obtain ⟨hx, hb, hr, hml, hlocks, hown, hts, hK, hA, hN⟩ := id C0
  have hl : lv_has ls 3 [(0, .ref (q 0)), (1, .long x)] := hl
  refine lv_lload_n hx hb dX0_tank_0 rfl (lv_at hl 1 rfl) ?_
  refine lv_lconst (v := 0) hx hb dX0_tank_1 (by decide) ?_
  refine lv_ldc2 (v := 1000000000) hx hb hown (hts _ kc_X0_85) dX0_tank_2 ?_
  refine zk_pi (rest := []) C0 hP hD hS (c_within l D (tyG g) x (0 : Int64) (1000000000 : Int64)) kk_X0_46 hl.1 rfl rfl (Nat.le_of_ble_eq_true rfl) ⟨(Nat.le_of_ble_eq_true rfl), (Nat.le_of_ble_eq_true rfl)⟩ rfl rfl ⟨(Nat.le_of_ble_eq_true rfl), (Nat.le_of_ble_eq_true rfl)⟩ dX0_tank_5 (fun r_5 H locs hw_5 hP hS => ?_)
  obtain rfl := hw_5
  refine lv_if_ne (tgt := 13) hx hb dX0_tank_8 (by decide) (fun c_8 => ?_) (fun c_8 => ?_)
  · -- jump at 8
    have c_8 := zb_t c_8
    refine lv_aload_n hx hb dX0_tank_13 rfl (lv_at hl 0 rfl) ?_
    refine lv_lload_n hx hb dX0_tank_14 rfl (lv_at hl 1 rfl) ?_
    refine va_put (D := D) (ci := 0) (v := .long x) (ty := .long) (C := RX0) (T := TX0) (N := 18) hx hb hts iw_X0 tyX0 tyok_X0 nm_X0 hown hK hP hD hS 0 rfl rfl 13 (by decide) (hts _ kf_X0_87) (fun _ h9 => h9) rfl (by decide +kernel) rfl rfl (Nat.le_of_ble_eq_true rfl) dX0_tank_15 (fun H locs hP hD hS => ?_)
    have hP : va_P D vwCl (wL g q n a (va_up b 0 (vp_updL (b 0) 0 x)) v) H := hP
    have hD : va_D A (wL g q n a (va_up b 0 (vp_updL (b 0) 0 x)) v) := hD
    refine lv_iconst (v := 1) hx hb dX0_tank_18 (by decide) ?_
    exact hret 1 (a, va_up b 0 (vp_updL (b 0) 0 x), v) _ _ _ _ _ _ rfl (by simp [zb, c_8]) hP hD hS (Nat.le_of_ble_eq_true rfl) (Nat.le_of_ble_eq_true rfl) dX0_tank_19
  · -- on at 8
    have c_8 := zb_f c_8
    refine lv_iconst (v := 0) hx hb dX0_tank_11 (by decide) ?_
    exact hret 0 (a, b, v) _ _ _ _ _ _ rfl (by simp [zb, c_8]) hP hD hS (Nat.le_of_ble_eq_true rfl) (Nat.le_of_ble_eq_true rfl) dX0_tank_12
def rm_limit : Room := { frames := 1, cells := 0, slots := 0, locals := 25 }
set_option maxHeartbeats 4000000 in
set_option maxRecDepth 100000 in
theorem c_limit (l : Launch) (D : va_G) (g : Nat → ClassId) (q : Nat → Nat) (n : Nat) (a : Nat → Nat → Int32) (b : Nat → Nat → Int64) (v : Nat → Nat → Int32) (x y : Int64) : zc_i l D (tyG g) yX0_limit cX0_limit 5 (some .boolean) rm_limit [.ref (q 0), .long x, .long y] (wL g q n a b v) (fun (r : Int32) (u : zS) => r = zb (m_within x (-1) 1000000000 && m_within y (-1) 1000000000) ∧ u = if (m_within x (-1) 1000000000 && m_within y (-1) 1000000000) = true then (a, va_up b 0 (vp_updL (vp_updL (b 0) 1 x) 2 y), v) else (a, b, v)) (fun u => wL g q n u.1 u.2.1 u.2.2) 0 0 := by
  refine zi_of (by decide) (Nat.le_of_ble_eq_true rfl) rfl ?_
  intro p e s m args below meth cd_ A Q ls C0 hnm hP hD hS hl hret
  obtain ⟨hx, hb, hr, hml, hlocks, hown, hts, hK, hA, hN⟩ := id C0
  have hl : lv_has ls 5 [(0, .ref (q 0)), (1, .long x), (3, .long y)] := hl
  refine lv_lload_n hx hb dX0_limit_0 rfl (lv_at hl 1 rfl) ?_
  refine lv_ldc2 (v := (-1)) hx hb hown (hts _ kc_X0_35) dX0_limit_1 ?_
  refine lv_ldc2 (v := 1000000000) hx hb hown (hts _ kc_X0_85) dX0_limit_4 ?_
  refine zk_pi (rest := []) C0 hP hD hS (c_within l D (tyG g) x ((-1) : Int64) (1000000000 : Int64)) kk_X0_46 hl.1 rfl rfl (Nat.le_of_ble_eq_true rfl) ⟨(Nat.le_of_ble_eq_true rfl), (Nat.le_of_ble_eq_true rfl)⟩ rfl rfl ⟨(Nat.le_of_ble_eq_true rfl), (Nat.le_of_ble_eq_true rfl)⟩ dX0_limit_7 (fun r_7 H locs hw_7 hP hS => ?_)
  obtain rfl := hw_7
  refine lv_if_eq (tgt := 26) hx hb dX0_limit_10 (by decide) (fun c_10 => ?_) (fun c_10 => ?_)
  · -- jump at 10
    have c_10 := zb_f c_10
    refine lv_iconst (v := 0) hx hb dX0_limit_26 (by decide) ?_
    exact hret 0 (a, b, v) _ _ _ _ _ _ rfl (by simp [zb, c_10]) hP hD hS (Nat.le_of_ble_eq_true rfl) (Nat.le_of_ble_eq_true rfl) dX0_limit_27
  · -- on at 10
    have c_10 := zb_t c_10
    refine lv_lload_n hx hb dX0_limit_13 rfl (lv_at hl 2 rfl) ?_
    refine lv_ldc2 (v := (-1)) hx hb hown (hts _ kc_X0_35) dX0_limit_14 ?_
    refine lv_ldc2 (v := 1000000000) hx hb hown (hts _ kc_X0_85) dX0_limit_17 ?_
    refine zk_pi (rest := []) C0 hP hD hS (c_within l D (tyG g) y ((-1) : Int64) (1000000000 : Int64)) kk_X0_46 hl.1 rfl rfl (Nat.le_of_ble_eq_true rfl) ⟨(Nat.le_of_ble_eq_true rfl), (Nat.le_of_ble_eq_true rfl)⟩ rfl rfl ⟨(Nat.le_of_ble_eq_true rfl), (Nat.le_of_ble_eq_true rfl)⟩ dX0_limit_20 (fun r_20 H locs hw_20 hP hS => ?_)
    obtain rfl := hw_20
    refine lv_if_ne (tgt := 28) hx hb dX0_limit_23 (by decide) (fun c_23 => ?_) (fun c_23 => ?_)
    · -- jump at 23
      have c_23 := zb_t c_23
      refine lv_aload_n hx hb dX0_limit_28 rfl (lv_at hl 0 rfl) ?_
      refine lv_lload_n hx hb dX0_limit_29 rfl (lv_at hl 1 rfl) ?_
      refine va_put (D := D) (ci := 0) (v := .long x) (ty := .long) (C := RX0) (T := TX0) (N := 18) hx hb hts iw_X0 tyX0 tyok_X0 nm_X0 hown hK hP hD hS 0 rfl rfl 16 (by decide) (hts _ kf_X0_37) (fun _ h9 => h9) rfl (by decide +kernel) rfl rfl (Nat.le_of_ble_eq_true rfl) dX0_limit_30 (fun H locs hP hD hS => ?_)
      have hP : va_P D vwCl (wL g q n a (va_up b 0 (vp_updL (b 0) 1 x)) v) H := hP
      have hD : va_D A (wL g q n a (va_up b 0 (vp_updL (b 0) 1 x)) v) := hD
      refine lv_aload_n hx hb dX0_limit_33 rfl (lv_at hl 0 rfl) ?_
      refine lv_lload_n hx hb dX0_limit_34 rfl (lv_at hl 2 rfl) ?_
      refine va_put (D := D) (ci := 0) (v := .long y) (ty := .long) (C := RX0) (T := TX0) (N := 18) hx hb hts iw_X0 tyX0 tyok_X0 nm_X0 hown hK hP hD hS 0 rfl rfl 17 (by decide) (hts _ kf_X0_41) (fun _ h9 => h9) rfl (by decide +kernel) rfl rfl (Nat.le_of_ble_eq_true rfl) dX0_limit_35 (fun H locs hP hD hS => ?_)
      have hP : va_P D vwCl (wL g q n a (va_up b 0 (vp_updL (vp_updL (b 0) 1 x) 2 y)) v) H := hP
      have hD : va_D A (wL g q n a (va_up b 0 (vp_updL (vp_updL (b 0) 1 x) 2 y)) v) := hD
      refine lv_iconst (v := 1) hx hb dX0_limit_38 (by decide) ?_
      exact hret 1 (a, va_up b 0 (vp_updL (vp_updL (b 0) 1 x) 2 y), v) _ _ _ _ _ _ rfl (by simp [zb, c_10, c_23]) hP hD hS (Nat.le_of_ble_eq_true rfl) (Nat.le_of_ble_eq_true rfl) dX0_limit_39
    · -- on at 23
      have c_23 := zb_f c_23
      refine lv_iconst (v := 0) hx hb dX0_limit_26 (by decide) ?_
      exact hret 0 (a, b, v) _ _ _ _ _ _ rfl (by simp [zb, c_10, c_23]) hP hD hS (Nat.le_of_ble_eq_true rfl) (Nat.le_of_ble_eq_true rfl) dX0_limit_27
def rm_layer : Room := { frames := 2, cells := 0, slots := 0, locals := 46 }
set_option maxHeartbeats 4000000 in
set_option maxRecDepth 100000 in
theorem c_layer (l : Launch) (D : va_G) (g : Nat → ClassId) (q : Nat → Nat) (n : Nat) (a : Nat → Nat → Int32) (b : Nat → Nat → Int64) (v : Nat → Nat → Int32) (hn : 1 ≤ n ∧ n ≤ 6) (x y z : Int32) : zc_i l D (tyG g) yX0_layer cX0_layer 4 (some .boolean) rm_layer [.ref (q 0), .int x, .int y, .int z] (wL g q n a b v) (fun (r : Int32) (u : zS) => r = zb (m_isLayer n x && m_within y.toInt64 0 1000000 && m_parts z) ∧ u = if (m_isLayer n x && m_within y.toInt64 0 1000000 && m_parts z) = true then (va_up (va_up a 2 (upd (a 2) x.toNatClampNeg y)) 3 (upd (a 3) x.toNatClampNeg z), b, v) else (a, b, v)) (fun u => wL g q n u.1 u.2.1 u.2.2) 0 0 := by
  refine zi_of (by decide) (Nat.le_of_ble_eq_true rfl) rfl ?_
  intro p e s m args below meth cd_ A Q ls C0 hnm hP hD hS hl hret
  obtain ⟨hx, hb, hr, hml, hlocks, hown, hts, hK, hA, hN⟩ := id C0
  have hl : lv_has ls 4 [(0, .ref (q 0)), (1, .int x), (2, .int y), (3, .int z)] := hl
  refine lv_aload_n hx hb dX0_layer_0 rfl (lv_at hl 0 rfl) ?_
  refine lv_iload_n hx hb dX0_layer_1 rfl (lv_at hl 1 rfl) ?_
  refine zf_vi (rest := []) C0 hP hD hS (c_isLayer l D g q n a b v x) kk_X0_66 kv_X0_66 0 rfl 0 rfl hl.1 rfl rfl (Nat.le_of_ble_eq_true rfl) ⟨(Nat.le_of_ble_eq_true rfl), (Nat.le_of_ble_eq_true rfl)⟩ rfl rfl ⟨(Nat.le_of_ble_eq_true rfl), (Nat.le_of_ble_eq_true rfl)⟩ dX0_layer_2 (fun r_2 u_2 H locs hw_2 hP hD hS => ?_)
  obtain rfl := hw_2
  refine lv_if_eq (tgt := 27) hx hb dX0_layer_5 (by decide) (fun c_5 => ?_) (fun c_5 => ?_)
  · -- jump at 5
    have c_5 := zb_f c_5
    refine lv_iconst (v := 0) hx hb dX0_layer_27 (by decide) ?_
    exact hret 0 (a, b, v) _ _ _ _ _ _ rfl (by simp [zb, c_5]) hP hD hS (Nat.le_of_ble_eq_true rfl) (Nat.le_of_ble_eq_true rfl) dX0_layer_28
  · -- on at 5
    have c_5 := zb_t c_5
    obtain ⟨k, hk, rfl⟩ := m_layer_k hn c_5
    have hcl : (nI k).toNatClampNeg = k := nI_clamp (by omega)
    refine lv_iload_n hx hb dX0_layer_8 rfl (lv_at hl 2 rfl) ?_
    refine lv_i2l (v := y.toInt64) hx hb dX0_layer_9 rfl ?_
    refine lv_lconst (v := 0) hx hb dX0_layer_10 (by decide) ?_
    refine lv_ldc2 (v := 1000000) hx hb hown (hts _ kc_X0_70) dX0_layer_11 ?_
    refine zk_pi (rest := []) C0 hP hD hS (c_within l D (tyG g) y.toInt64 (0 : Int64) (1000000 : Int64)) kk_X0_46 hl.1 rfl rfl (Nat.le_of_ble_eq_true rfl) ⟨(Nat.le_of_ble_eq_true rfl), (Nat.le_of_ble_eq_true rfl)⟩ rfl rfl ⟨(Nat.le_of_ble_eq_true rfl), (Nat.le_of_ble_eq_true rfl)⟩ dX0_layer_14 (fun r_14 H locs hw_14 hP hS => ?_)
    obtain rfl := hw_14
    refine lv_if_eq (tgt := 27) hx hb dX0_layer_17 (by decide) (fun c_17 => ?_) (fun c_17 => ?_)
    · -- jump at 17
      have c_17 := zb_f c_17
      refine lv_iconst (v := 0) hx hb dX0_layer_27 (by decide) ?_
      exact hret 0 (a, b, v) _ _ _ _ _ _ rfl (by simp [zb, c_5, c_17, hcl]) hP hD hS (Nat.le_of_ble_eq_true rfl) (Nat.le_of_ble_eq_true rfl) dX0_layer_28
    · -- on at 17
      have c_17 := zb_t c_17
      refine lv_iload_n hx hb dX0_layer_20 rfl (lv_at hl 3 rfl) ?_
      refine zk_pi (rest := []) C0 hP hD hS (c_isParts l D (tyG g) z) kk_X0_72 hl.1 rfl rfl (Nat.le_of_ble_eq_true rfl) ⟨(Nat.le_of_ble_eq_true rfl), (Nat.le_of_ble_eq_true rfl)⟩ rfl rfl ⟨(Nat.le_of_ble_eq_true rfl), (Nat.le_of_ble_eq_true rfl)⟩ dX0_layer_21 (fun r_21 H locs hw_21 hP hS => ?_)
      obtain rfl := hw_21
      refine lv_if_ne (tgt := 29) hx hb dX0_layer_24 (by decide) (fun c_24 => ?_) (fun c_24 => ?_)
      · -- jump at 24
        have c_24 := zb_t c_24
        refine lv_aload_n hx hb dX0_layer_29 rfl (lv_at hl 0 rfl) ?_
        refine va_get (D := D) (ci := 0) (v := .ref (q 2)) (C := RX0) (T := TX0) (N := 18) hx hb hts iw_X0 hown hK hP 0 rfl rfl 1 (by decide) (hts _ kf_X0_53) (fun _ h9 => h9) rfl dX0_layer_30 ?_
        refine lv_iload_n hx hb dX0_layer_33 rfl (lv_at hl 1 rfl) ?_
        refine lv_iload_n hx hb dX0_layer_34 rfl (lv_at hl 2 rfl) ?_
        refine za_iast (k := k) (x := y) (f := (a 2)) hx hb hK hP hD hS 2 0 rfl rfl rfl (by omega) (by omega) dX0_layer_35 (fun H locs hP hD hS => ?_)
        have hP : va_P D vwCl (wL g q n (va_up a 2 (upd (a 2) k y)) b v) H := hP
        have hD : va_D A (wL g q n (va_up a 2 (upd (a 2) k y)) b v) := hD
        refine lv_aload_n hx hb dX0_layer_36 rfl (lv_at hl 0 rfl) ?_
        refine va_get (D := D) (ci := 0) (v := .ref (q 3)) (C := RX0) (T := TX0) (N := 18) hx hb hts iw_X0 hown hK hP 0 rfl rfl 2 (by decide) (hts _ kf_X0_56) (fun _ h9 => h9) rfl dX0_layer_37 ?_
        refine lv_iload_n hx hb dX0_layer_40 rfl (lv_at hl 1 rfl) ?_
        refine lv_iload_n hx hb dX0_layer_41 rfl (lv_at hl 3 rfl) ?_
        refine za_iast (k := k) (x := z) (f := (a 3)) hx hb hK hP hD hS 3 0 rfl rfl rfl (by omega) (by omega) dX0_layer_42 (fun H locs hP hD hS => ?_)
        have hP : va_P D vwCl (wL g q n (va_up (va_up a 2 (upd (a 2) k y)) 3 (upd (a 3) k z)) b v) H := hP
        have hD : va_D A (wL g q n (va_up (va_up a 2 (upd (a 2) k y)) 3 (upd (a 3) k z)) b v) := hD
        refine lv_iconst (v := 1) hx hb dX0_layer_43 (by decide) ?_
        exact hret 1 (va_up (va_up a 2 (upd (a 2) k y)) 3 (upd (a 3) k z), b, v) _ _ _ _ _ _ rfl (by simp [zb, c_5, c_17, c_24, hcl]) hP hD hS (Nat.le_of_ble_eq_true rfl) (Nat.le_of_ble_eq_true rfl) dX0_layer_44
      · -- on at 24
        have c_24 := zb_f c_24
        refine lv_iconst (v := 0) hx hb dX0_layer_27 (by decide) ?_
        exact hret 0 (a, b, v) _ _ _ _ _ _ rfl (by simp [zb, c_5, c_17, c_24, hcl]) hP hD hS (Nat.le_of_ble_eq_true rfl) (Nat.le_of_ble_eq_true rfl) dX0_layer_28
def rm_stage : Room := { frames := 2, cells := 0, slots := 0, locals := 45 }
set_option maxHeartbeats 4000000 in
set_option maxRecDepth 100000 in
theorem c_stage (l : Launch) (D : va_G) (g : Nat → ClassId) (q : Nat → Nat) (n : Nat) (a : Nat → Nat → Int32) (b : Nat → Nat → Int64) (v : Nat → Nat → Int32) (sc : Nat) (hsc : a 0 3 = nI sc) (hsc4 : sc ≤ 4) (x y : Int32) : zc_i l D (tyG g) yX0_stage cX0_stage 3 (some .int) rm_stage [.ref (q 0), .int x, .int y] (wL g q n a b v) (fun (r : Int32) (u : zS) => r = (if (decide (sc < 4) && m_within x.toInt64 0 1000000 && m_parts y) = true then nI sc else -1) ∧ u = if (decide (sc < 4) && m_within x.toInt64 0 1000000 && m_parts y) = true then (va_up (va_up (va_up a 0 (upd (a 0) 3 (nI (sc + 1)))) 4 (upd (a 4) sc x)) 5 (upd (a 5) sc y), b, v) else (a, b, v)) (fun u => wL g q n u.1 u.2.1 u.2.2) 0 0 := by
  refine zi_of (by decide) (Nat.le_of_ble_eq_true rfl) rfl ?_
  intro p e s m args below meth cd_ A Q ls C0 hnm hP hD hS hl hret
  obtain ⟨hx, hb, hr, hml, hlocks, hown, hts, hK, hA, hN⟩ := id C0
  have hl : lv_has ls 3 [(0, .ref (q 0)), (1, .int x), (2, .int y)] := hl
  refine lv_aload_n hx hb dX0_stage_0 rfl (lv_at hl 0 rfl) ?_
  refine va_get (D := D) (ci := 0) (v := .int (a 0 3)) (C := RX0) (T := TX0) (N := 18) hx hb hts iw_X0 hown hK hP 0 rfl rfl 14 (by decide) (hts _ kf_X0_90) (fun _ h9 => h9) rfl dX0_stage_1 ?_
  rw [hsc]
  refine lv_iconst (v := 4) hx hb dX0_stage_4 (by decide) ?_
  refine lv_icmp_ge (tgt := 27) hx hb dX0_stage_5 (by decide) (fun c_5 => ?_) (fun c_5 => ?_)
  · -- jump at 5
    have hs4 : ¬ sc < 4 := fun h => absurd c_5 (nI_ge (a := sc) (b := 4) h (by decide))
    refine lv_iconst (v := (-1)) hx hb dX0_stage_27 (by decide) ?_
    exact hret (-1) (a, b, v) _ _ _ _ _ _ (vp_nar_int _) (by simp [hs4]) hP hD hS (Nat.le_of_ble_eq_true rfl) (Nat.le_of_ble_eq_true rfl) dX0_stage_28
  · -- on at 5
    have hs4 : sc < 4 := by rcases Nat.lt_or_ge sc 4 with h | h; exact h; exact absurd (nI_le (a := 4) h (by omega)) c_5
    refine lv_iload_n hx hb dX0_stage_8 rfl (lv_at hl 1 rfl) ?_
    refine lv_i2l (v := x.toInt64) hx hb dX0_stage_9 rfl ?_
    refine lv_lconst (v := 0) hx hb dX0_stage_10 (by decide) ?_
    refine lv_ldc2 (v := 1000000) hx hb hown (hts _ kc_X0_70) dX0_stage_11 ?_
    refine zk_pi (rest := []) C0 hP hD hS (c_within l D (tyG g) x.toInt64 (0 : Int64) (1000000 : Int64)) kk_X0_46 hl.1 rfl rfl (Nat.le_of_ble_eq_true rfl) ⟨(Nat.le_of_ble_eq_true rfl), (Nat.le_of_ble_eq_true rfl)⟩ rfl rfl ⟨(Nat.le_of_ble_eq_true rfl), (Nat.le_of_ble_eq_true rfl)⟩ dX0_stage_14 (fun r_14 H locs hw_14 hP hS => ?_)
    obtain rfl := hw_14
    refine lv_if_eq (tgt := 27) hx hb dX0_stage_17 (by decide) (fun c_17 => ?_) (fun c_17 => ?_)
    · -- jump at 17
      have c_17 := zb_f c_17
      refine lv_iconst (v := (-1)) hx hb dX0_stage_27 (by decide) ?_
      exact hret (-1) (a, b, v) _ _ _ _ _ _ (vp_nar_int _) (by simp [hs4, c_17]) hP hD hS (Nat.le_of_ble_eq_true rfl) (Nat.le_of_ble_eq_true rfl) dX0_stage_28
    · -- on at 17
      have c_17 := zb_t c_17
      refine lv_iload_n hx hb dX0_stage_20 rfl (lv_at hl 2 rfl) ?_
      refine zk_pi (rest := []) C0 hP hD hS (c_isParts l D (tyG g) y) kk_X0_72 hl.1 rfl rfl (Nat.le_of_ble_eq_true rfl) ⟨(Nat.le_of_ble_eq_true rfl), (Nat.le_of_ble_eq_true rfl)⟩ rfl rfl ⟨(Nat.le_of_ble_eq_true rfl), (Nat.le_of_ble_eq_true rfl)⟩ dX0_stage_21 (fun r_21 H locs hw_21 hP hS => ?_)
      obtain rfl := hw_21
      refine lv_if_ne (tgt := 29) hx hb dX0_stage_24 (by decide) (fun c_24 => ?_) (fun c_24 => ?_)
      · -- jump at 24
        have c_24 := zb_t c_24
        refine lv_aload_n hx hb dX0_stage_29 rfl (lv_at hl 0 rfl) ?_
        refine va_get (D := D) (ci := 0) (v := .ref (q 4)) (C := RX0) (T := TX0) (N := 18) hx hb hts iw_X0 hown hK hP 0 rfl rfl 3 (by decide) (hts _ kf_X0_9) (fun _ h9 => h9) rfl dX0_stage_30 ?_
        refine lv_aload_n hx hb dX0_stage_33 rfl (lv_at hl 0 rfl) ?_
        refine va_get (D := D) (ci := 0) (v := .int (a 0 3)) (C := RX0) (T := TX0) (N := 18) hx hb hts iw_X0 hown hK hP 0 rfl rfl 14 (by decide) (hts _ kf_X0_90) (fun _ h9 => h9) rfl dX0_stage_34 ?_
        rw [hsc]
        refine lv_iload_n hx hb dX0_stage_37 rfl (lv_at hl 1 rfl) ?_
        refine za_iast (k := sc) (x := x) (f := (a 4)) hx hb hK hP hD hS 4 0 rfl rfl rfl (by omega) (by decide) dX0_stage_38 (fun H locs hP hD hS => ?_)
        have hP : va_P D vwCl (wL g q n (va_up a 4 (upd (a 4) sc x)) b v) H := hP
        have hD : va_D A (wL g q n (va_up a 4 (upd (a 4) sc x)) b v) := hD
        refine lv_aload_n hx hb dX0_stage_39 rfl (lv_at hl 0 rfl) ?_
        refine va_get (D := D) (ci := 0) (v := .ref (q 5)) (C := RX0) (T := TX0) (N := 18) hx hb hts iw_X0 hown hK hP 0 rfl rfl 4 (by decide) (hts _ kf_X0_13) (fun _ h9 => h9) rfl dX0_stage_40 ?_
        refine lv_aload_n hx hb dX0_stage_43 rfl (lv_at hl 0 rfl) ?_
        refine va_get (D := D) (ci := 0) (v := .int (a 0 3)) (C := RX0) (T := TX0) (N := 18) hx hb hts iw_X0 hown hK hP 0 rfl rfl 14 (by decide) (hts _ kf_X0_90) (fun _ h9 => h9) rfl dX0_stage_44 ?_
        rw [hsc]
        refine lv_iload_n hx hb dX0_stage_47 rfl (lv_at hl 2 rfl) ?_
        refine za_iast (k := sc) (x := y) (f := (a 5)) hx hb hK hP hD hS 5 0 rfl rfl rfl (by omega) (by decide) dX0_stage_48 (fun H locs hP hD hS => ?_)
        have hP : va_P D vwCl (wL g q n (va_up (va_up a 4 (upd (a 4) sc x)) 5 (upd (a 5) sc y)) b v) H := hP
        have hD : va_D A (wL g q n (va_up (va_up a 4 (upd (a 4) sc x)) 5 (upd (a 5) sc y)) b v) := hD
        refine lv_aload_n hx hb dX0_stage_49 rfl (lv_at hl 0 rfl) ?_
        refine lv_dup hx hb dX0_stage_50 rfl ?_
        refine va_get (D := D) (ci := 0) (v := .int (a 0 3)) (C := RX0) (T := TX0) (N := 18) hx hb hts iw_X0 hown hK hP 0 rfl rfl 14 (by decide) (hts _ kf_X0_90) (fun _ h9 => h9) rfl dX0_stage_51 ?_
        rw [hsc]
        refine lv_iconst (v := 1) hx hb dX0_stage_54 (by decide) ?_
        refine lv_iadd hx hb dX0_stage_55 ?_
        rw [show (nI sc) + 1 = nI (sc + 1) from nI_1 sc]
        refine va_put (D := D) (ci := 0) (v := .int (nI (sc + 1))) (ty := .int) (C := RX0) (T := TX0) (N := 18) hx hb hts iw_X0 tyX0 tyok_X0 nm_X0 hown hK hP hD hS 0 rfl rfl 14 (by decide) (hts _ kf_X0_90) (fun _ h9 => h9) rfl (by decide +kernel) rfl rfl (Nat.le_of_ble_eq_true rfl) dX0_stage_56 (fun H locs hP hD hS => ?_)
        have hP : va_P D vwCl (wL g q n (va_up (va_up (va_up a 0 (upd (a 0) 3 (nI (sc + 1)))) 4 (upd (a 4) sc x)) 5 (upd (a 5) sc y)) b v) H := hP
        have hD : va_D A (wL g q n (va_up (va_up (va_up a 0 (upd (a 0) 3 (nI (sc + 1)))) 4 (upd (a 4) sc x)) 5 (upd (a 5) sc y)) b v) := hD
        refine lv_aload_n hx hb dX0_stage_59 rfl (lv_at hl 0 rfl) ?_
        refine va_get (D := D) (ci := 0) (v := .int (nI (sc + 1))) (C := RX0) (T := TX0) (N := 18) hx hb hts iw_X0 hown hK hP 0 rfl rfl 14 (by decide) (hts _ kf_X0_90) (fun _ h9 => h9) rfl dX0_stage_60 ?_
        refine lv_iconst (v := 1) hx hb dX0_stage_63 (by decide) ?_
        refine lv_isub hx hb dX0_stage_64 ?_
        rw [show (nI (sc + 1)) - 1 = nI sc from nI_pred sc]
        exact hret (nI sc) (va_up (va_up (va_up a 0 (upd (a 0) 3 (nI (sc + 1)))) 4 (upd (a 4) sc x)) 5 (upd (a 5) sc y), b, v) _ _ _ _ _ _ (vp_nar_int _) (by simp [hs4, c_17, c_24]) hP hD hS (Nat.le_of_ble_eq_true rfl) (Nat.le_of_ble_eq_true rfl) dX0_stage_65
      · -- on at 24
        have c_24 := zb_f c_24
        refine lv_iconst (v := (-1)) hx hb dX0_stage_27 (by decide) ?_
        exact hret (-1) (a, b, v) _ _ _ _ _ _ (vp_nar_int _) (by simp [hs4, c_17, c_24]) hP hD hS (Nat.le_of_ble_eq_true rfl) (Nat.le_of_ble_eq_true rfl) dX0_stage_28
def rm_rain : Room := { frames := 1, cells := 0, slots := 0, locals := 25 }
set_option maxHeartbeats 4000000 in
set_option maxRecDepth 100000 in
theorem c_rain (l : Launch) (D : va_G) (g : Nat → ClassId) (q : Nat → Nat) (n : Nat) (a : Nat → Nat → Int32) (b : Nat → Nat → Int64) (v : Nat → Nat → Int32) (d : Nat) (hd : a 0 4 = nI d) (hd4 : d ≤ 400) (x y : Int32) : zc_i l D (tyG g) yX0_rain cX0_rain 3 (some .boolean) rm_rain [.ref (q 0), .int x, .int y] (wL g q n a b v) (fun (r : Int32) (u : zS) => r = zb (m_within x.toInt64 (nI d).toInt64 399 && m_within y.toInt64 0 1000000) ∧ u = if (m_within x.toInt64 (nI d).toInt64 399 && m_within y.toInt64 0 1000000) = true then (va_up a 6 (upd (a 6) x.toNatClampNeg y), b, v) else (a, b, v)) (fun u => wL g q n u.1 u.2.1 u.2.2) 0 0 := by
  refine zi_of (by decide) (Nat.le_of_ble_eq_true rfl) rfl ?_
  intro p e s m args below meth cd_ A Q ls C0 hnm hP hD hS hl hret
  obtain ⟨hx, hb, hr, hml, hlocks, hown, hts, hK, hA, hN⟩ := id C0
  have hl : lv_has ls 3 [(0, .ref (q 0)), (1, .int x), (2, .int y)] := hl
  refine lv_iload_n hx hb dX0_rain_0 rfl (lv_at hl 1 rfl) ?_
  refine lv_i2l (v := x.toInt64) hx hb dX0_rain_1 rfl ?_
  refine lv_aload_n hx hb dX0_rain_2 rfl (lv_at hl 0 rfl) ?_
  refine va_get (D := D) (ci := 0) (v := .int (a 0 4)) (C := RX0) (T := TX0) (N := 18) hx hb hts iw_X0 hown hK hP 0 rfl rfl 15 (by decide) (hts _ kf_X0_93) (fun _ h9 => h9) rfl dX0_rain_3 ?_
  rw [hd]
  refine lv_i2l (v := (nI d).toInt64) hx hb dX0_rain_6 rfl ?_
  refine lv_ldc2 (v := 399) hx hb hown (hts _ kc_X0_96) dX0_rain_7 ?_
  refine zk_pi (rest := []) C0 hP hD hS (c_within l D (tyG g) x.toInt64 ((nI d).toInt64) (399 : Int64)) kk_X0_46 hl.1 rfl rfl (Nat.le_of_ble_eq_true rfl) ⟨(Nat.le_of_ble_eq_true rfl), (Nat.le_of_ble_eq_true rfl)⟩ rfl rfl ⟨(Nat.le_of_ble_eq_true rfl), (Nat.le_of_ble_eq_true rfl)⟩ dX0_rain_10 (fun r_10 H locs hw_10 hP hS => ?_)
  obtain rfl := hw_10
  refine lv_if_eq (tgt := 28) hx hb dX0_rain_13 (by decide) (fun c_13 => ?_) (fun c_13 => ?_)
  · -- jump at 13
    have c_13 := zb_f c_13
    refine lv_iconst (v := 0) hx hb dX0_rain_28 (by decide) ?_
    exact hret 0 (a, b, v) _ _ _ _ _ _ rfl (by simp [zb, c_13]) hP hD hS (Nat.le_of_ble_eq_true rfl) (Nat.le_of_ble_eq_true rfl) dX0_rain_29
  · -- on at 13
    have c_13 := zb_t c_13
    obtain ⟨k, hk1, hk2, rfl⟩ := m_rain_k hd4 c_13
    have hcl : (nI k).toNatClampNeg = k := nI_clamp (by omega)
    refine lv_iload_n hx hb dX0_rain_16 rfl (lv_at hl 2 rfl) ?_
    refine lv_i2l (v := y.toInt64) hx hb dX0_rain_17 rfl ?_
    refine lv_lconst (v := 0) hx hb dX0_rain_18 (by decide) ?_
    refine lv_ldc2 (v := 1000000) hx hb hown (hts _ kc_X0_70) dX0_rain_19 ?_
    refine zk_pi (rest := []) C0 hP hD hS (c_within l D (tyG g) y.toInt64 (0 : Int64) (1000000 : Int64)) kk_X0_46 hl.1 rfl rfl (Nat.le_of_ble_eq_true rfl) ⟨(Nat.le_of_ble_eq_true rfl), (Nat.le_of_ble_eq_true rfl)⟩ rfl rfl ⟨(Nat.le_of_ble_eq_true rfl), (Nat.le_of_ble_eq_true rfl)⟩ dX0_rain_22 (fun r_22 H locs hw_22 hP hS => ?_)
    obtain rfl := hw_22
    refine lv_if_ne (tgt := 30) hx hb dX0_rain_25 (by decide) (fun c_25 => ?_) (fun c_25 => ?_)
    · -- jump at 25
      have c_25 := zb_t c_25
      refine lv_aload_n hx hb dX0_rain_30 rfl (lv_at hl 0 rfl) ?_
      refine va_get (D := D) (ci := 0) (v := .ref (q 6)) (C := RX0) (T := TX0) (N := 18) hx hb hts iw_X0 hown hK hP 0 rfl rfl 5 (by decide) (hts _ kf_X0_16) (fun _ h9 => h9) rfl dX0_rain_31 ?_
      refine lv_iload_n hx hb dX0_rain_34 rfl (lv_at hl 1 rfl) ?_
      refine lv_iload_n hx hb dX0_rain_35 rfl (lv_at hl 2 rfl) ?_
      refine za_iast (k := k) (x := y) (f := (a 6)) hx hb hK hP hD hS 6 0 rfl rfl rfl (by omega) (by decide) dX0_rain_36 (fun H locs hP hD hS => ?_)
      have hP : va_P D vwCl (wL g q n (va_up a 6 (upd (a 6) k y)) b v) H := hP
      have hD : va_D A (wL g q n (va_up a 6 (upd (a 6) k y)) b v) := hD
      refine lv_iconst (v := 1) hx hb dX0_rain_37 (by decide) ?_
      exact hret 1 (va_up a 6 (upd (a 6) k y), b, v) _ _ _ _ _ _ rfl (by simp [zb, c_13, c_25, hcl]) hP hD hS (Nat.le_of_ble_eq_true rfl) (Nat.le_of_ble_eq_true rfl) dX0_rain_38
    · -- on at 25
      have c_25 := zb_f c_25
      refine lv_iconst (v := 0) hx hb dX0_rain_28 (by decide) ?_
      exact hret 0 (a, b, v) _ _ _ _ _ _ rfl (by simp [zb, c_13, c_25, hcl]) hP hD hS (Nat.le_of_ble_eq_true rfl) (Nat.le_of_ble_eq_true rfl) dX0_rain_29
def rm_storm : Room := { frames := 2, cells := 0, slots := 0, locals := 46 }
set_option maxHeartbeats 4000000 in
set_option maxRecDepth 100000 in
theorem c_storm (l : Launch) (D : va_G) (g : Nat → ClassId) (q : Nat → Nat) (n : Nat) (a : Nat → Nat → Int32) (b : Nat → Nat → Int64) (v : Nat → Nat → Int32) (d : Nat) (hd : a 0 4 = nI d) (hd4 : d ≤ 400) (x : Int64) (y : Int32) : zc_i l D (tyG g) yX0_storm cX0_storm 7 (some .boolean) rm_storm [.ref (q 0), .long x, .int y] (wL g q n a b v) (fun (r : Int32) (u : zS) => r = zb (m_days (nI d) y) ∧ u = if m_days (nI d) y = true then (va_up a 6 (m_st (a 6) x d y.toNatClampNeg).2, b, v) else (a, b, v)) (fun u => wL g q n u.1 u.2.1 u.2.2) 0 0 := by
  refine zi_of (by decide) (Nat.le_of_ble_eq_true rfl) rfl ?_
  intro p e s m args below meth cd_ A Q ls C0 hnm hP hD hS hl hret
  obtain ⟨hx, hb, hr, hml, hlocks, hown, hts, hK, hA, hN⟩ := id C0
  have hl : lv_has ls 7 [(0, .ref (q 0)), (1, .long x), (3, .int y)] := hl
  refine lv_aload_n hx hb dX0_storm_0 rfl (lv_at hl 0 rfl) ?_
  refine lv_iload_n hx hb dX0_storm_1 rfl (lv_at hl 2 rfl) ?_
  refine zf_vi (rest := []) C0 hP hD hS (c_areDaysToRun l D g q n a b v y) kk_X0_98 kv_X0_98 0 rfl 0 rfl hl.1 rfl rfl (Nat.le_of_ble_eq_true rfl) ⟨(Nat.le_of_ble_eq_true rfl), (Nat.le_of_ble_eq_true rfl)⟩ rfl rfl ⟨(Nat.le_of_ble_eq_true rfl), (Nat.le_of_ble_eq_true rfl)⟩ dX0_storm_2 (fun r_2 u_2 H locs hw_2 hP hD hS => ?_)
  obtain rfl := hw_2
  refine lv_if_ne (tgt := 10) hx hb dX0_storm_5 (by decide) (fun c_5 => ?_) (fun c_5 => ?_)
  · -- jump at 5
    have c_5 := zb_t c_5
    rw [hd] at c_5
    obtain ⟨k, hk1, hk2, hk3, rfl⟩ := m_days_k hd4 c_5
    have hcl : (nI k).toNatClampNeg = k := nI_clamp (by omega)
    refine lv_lload_n hx hb dX0_storm_10 rfl (lv_at hl 1 rfl) ?_
    refine lv_lstore (lv' := [(4, .long x), (0, .ref (q 0)), (1, .long x), (3, .int (nI k))]) hx hb dX0_storm_11 hl (by decide) rfl (fun ls hl => ?_)
    refine lv_iconst (v := 0) hx hb dX0_storm_13 (by decide) ?_
    refine lv_istore (lv' := [(6, .int 0), (4, .long x), (0, .ref (q 0)), (1, .long x), (3, .int (nI k))]) hx hb dX0_storm_14 hl (by decide) rfl (fun ls hl => ?_)
    have lp_16 : ∀ (t_16 i : Nat) , i + t_16 = k → ∀ (H : Heap) (locs : List Loc) (ls : Array Slot), va_P D vwCl (wL g q n (va_up a 6 ((m_st (a 6) x d i).2)) b v) H → va_D A (wL g q n (va_up a 6 ((m_st (a 6) x d i).2)) b v) → va_S A s.heap H locs → lv_has ls 7 [(6, .int (nI i)), (4, .long ((m_st (a 6) x d i).1)), (0, .ref (q 0)), (3, .int (nI k))] → W p l e rm_storm s m args below meth cd_ H locs 0 0 Q (F0 m 16 ls []) := by
      intro t_16
      induction t_16 with
      | zero =>
        intro i hi_16 H locs ls hP hD hS hl
        obtain rfl : k = i := by omega
        refine lv_iload hx hb dX0_storm_16 (lv_at hl 0 rfl) ?_
        refine lv_iload_n hx hb dX0_storm_18 rfl (lv_at hl 3 rfl) ?_
        refine lv_icmp_ge (tgt := 58) hx hb dX0_storm_19 (by decide) (fun _ => ?_) (fun c_19 => absurd (nI_le (Nat.le_refl _) (by omega)) c_19)
        refine lv_iconst (v := 1) hx hb dX0_storm_58 (by decide) ?_
        exact hret 1 (va_up a 6 ((m_st (a 6) x d k).2), b, v) _ _ _ _ _ _ rfl (by simp [zb, c_5, hcl]) hP hD hS (Nat.le_of_ble_eq_true rfl) (Nat.le_of_ble_eq_true rfl) dX0_storm_59
      | succ t_16 ih_16 =>
        intro i hi_16 H locs ls hP hD hS hl
        refine lv_iload hx hb dX0_storm_16 (lv_at hl 0 rfl) ?_
        refine lv_iload_n hx hb dX0_storm_18 rfl (lv_at hl 3 rfl) ?_
        refine lv_icmp_ge (tgt := 58) hx hb dX0_storm_19 (by decide) (fun c_19 => absurd c_19 (nI_ge (by omega) (by omega))) (fun _ => ?_)
        refine lv_lload hx hb dX0_storm_22 (lv_at hl 1 rfl) ?_
        refine lv_ldc2 (v := 6364136223846793005) hx hb hown (hts _ kc_X0_101) dX0_storm_24 ?_
        refine lv_lmul hx hb dX0_storm_27 ?_
        refine lv_ldc2 (v := 1442695040888963407) hx hb hown (hts _ kc_X0_103) dX0_storm_28 ?_
        refine lv_ladd hx hb dX0_storm_31 ?_
        refine lv_lstore (lv' := [(4, .long ((((m_st (a 6) x d i).1) * 6364136223846793005) + 1442695040888963407)), (6, .int (nI i)), (0, .ref (q 0)), (3, .int (nI k))]) hx hb dX0_storm_32 hl (by decide) rfl (fun ls hl => ?_)
        refine lv_aload_n hx hb dX0_storm_34 rfl (lv_at hl 2 rfl) ?_
        refine va_get (D := D) (ci := 0) (v := .ref (q 6)) (C := RX0) (T := TX0) (N := 18) hx hb hts iw_X0 hown hK hP 0 rfl rfl 5 (by decide) (hts _ kf_X0_16) (fun _ h9 => h9) rfl dX0_storm_35 ?_
        refine lv_aload_n hx hb dX0_storm_38 rfl (lv_at hl 2 rfl) ?_
        refine va_get (D := D) (ci := 0) (v := .int (a 0 4)) (C := RX0) (T := TX0) (N := 18) hx hb hts iw_X0 hown hK hP 0 rfl rfl 15 (by decide) (hts _ kf_X0_93) (fun _ h9 => h9) rfl dX0_storm_39 ?_
        rw [hd]
        refine lv_iload hx hb dX0_storm_42 (lv_at hl 1 rfl) ?_
        refine lv_iadd hx hb dX0_storm_44 ?_
        rw [show (nI d) + (nI i) = nI (d + i) from nI_add d i]
        refine lv_lload hx hb dX0_storm_45 (lv_at hl 0 rfl) ?_
        refine lv_bipush (v := 54) hx hb dX0_storm_47 (by decide) ?_
        refine lv_lushr (v := (((((m_st (a 6) x d i).1) * 6364136223846793005) + 1442695040888963407).toUInt64 >>> ((54 : Int32).toInt64.toUInt64 &&& Int64.toUInt64 63)).toInt64) hx hb dX0_storm_49 rfl ?_
        refine lv_l2i (v := ((((((m_st (a 6) x d i).1) * 6364136223846793005) + 1442695040888963407).toUInt64 >>> ((54 : Int32).toInt64.toUInt64 &&& Int64.toUInt64 63)).toInt64).toInt32) hx hb dX0_storm_50 rfl ?_
        refine za_iast (k := (d + i)) (x := ((((((m_st (a 6) x d i).1) * 6364136223846793005) + 1442695040888963407).toUInt64 >>> ((54 : Int32).toInt64.toUInt64 &&& Int64.toUInt64 63)).toInt64).toInt32) (f := ((m_st (a 6) x d i).2)) hx hb hK hP hD hS 6 0 rfl rfl rfl (by omega) (by decide) dX0_storm_51 (fun H locs hP hD hS => ?_)
        have hP : va_P D vwCl (wL g q n (va_up a 6 (upd ((m_st (a 6) x d i).2) (d + i) (((((((m_st (a 6) x d i).1) * 6364136223846793005) + 1442695040888963407).toUInt64 >>> ((54 : Int32).toInt64.toUInt64 &&& Int64.toUInt64 63)).toInt64).toInt32))) b v) H := hP
        have hD : va_D A (wL g q n (va_up a 6 (upd ((m_st (a 6) x d i).2) (d + i) (((((((m_st (a 6) x d i).1) * 6364136223846793005) + 1442695040888963407).toUInt64 >>> ((54 : Int32).toInt64.toUInt64 &&& Int64.toUInt64 63)).toInt64).toInt32))) b v) := hD
        refine lv_iinc (v := nI (i + 1)) (lv' := [(6, .int (nI (i + 1))), (4, .long ((((m_st (a 6) x d i).1) * 6364136223846793005) + 1442695040888963407)), (0, .ref (q 0)), (3, .int (nI k))]) hx hb dX0_storm_52 hl (k := 1) rfl (nI_1 i) (by decide) rfl (fun ls hl => ?_)
        refine lv_goto (tgt := 16) hx hb dX0_storm_55 (by decide) ?_
        have hP : va_P D vwCl (wL g q n (va_up a 6 ((m_st (a 6) x d (i + 1)).2)) b v) _ := hP
        have hD : va_D A (wL g q n (va_up a 6 ((m_st (a 6) x d (i + 1)).2)) b v) := hD
        have hl : lv_has ls 7 [(6, .int (nI (i + 1))), (4, .long ((m_st (a 6) x d (i + 1)).1)), (0, .ref (q 0)), (3, .int (nI k))] := lv_sub hl [0, 1, 2, 3] rfl
        exact ih_16 (i + 1)  (by omega)  _ _ _ hP hD hS hl
    exact lp_16 (k - 0) 0  (by omega)  _ _ _ hP hD hS (lv_sub hl [0, 1, 2, 4] rfl)
  · -- on at 5
    have c_5 := zb_f c_5
    rw [hd] at c_5
    refine lv_iconst (v := 0) hx hb dX0_storm_8 (by decide) ?_
    exact hret 0 (a, b, v) _ _ _ _ _ _ rfl (by simp [zb, c_5]) hP hD hS (Nat.le_of_ble_eq_true rfl) (Nat.le_of_ble_eq_true rfl) dX0_storm_9
def rm_held : Room := { frames := 2, cells := 0, slots := 0, locals := 46 }
set_option maxHeartbeats 4000000 in
set_option maxRecDepth 100000 in
theorem c_held (l : Launch) (D : va_G) (g : Nat → ClassId) (q : Nat → Nat) (n : Nat) (a : Nat → Nat → Int32) (b : Nat → Nat → Int64) (v : Nat → Nat → Int32) (hn : 1 ≤ n ∧ n ≤ 6) (x : Int32) : zc_l l D (tyG g) yX0_held cX0_held 2 (some .long) rm_held [.ref (q 0), .int x] (wL g q n a b v) (fun (r : Int64) (u : Unit) => r = if m_isLayer n x = true then b 1 x.toNatClampNeg else -1) (fun _ => wL g q n a b v) 0 0 := by
  refine zl_of (by decide) (Nat.le_of_ble_eq_true rfl) rfl ?_
  intro p e s m args below meth cd_ A Q ls C0 hnm hP hD hS hl hret
  obtain ⟨hx, hb, hr, hml, hlocks, hown, hts, hK, hA, hN⟩ := id C0
  have hl : lv_has ls 2 [(0, .ref (q 0)), (1, .int x)] := hl
  refine lv_aload_n hx hb dX0_held_0 rfl (lv_at hl 0 rfl) ?_
  refine lv_iload_n hx hb dX0_held_1 rfl (lv_at hl 1 rfl) ?_
  refine zf_vi (rest := []) C0 hP hD hS (c_isLayer l D g q n a b v x) kk_X0_66 kv_X0_66 0 rfl 0 rfl hl.1 rfl rfl (Nat.le_of_ble_eq_true rfl) ⟨(Nat.le_of_ble_eq_true rfl), (Nat.le_of_ble_eq_true rfl)⟩ rfl rfl ⟨(Nat.le_of_ble_eq_true rfl), (Nat.le_of_ble_eq_true rfl)⟩ dX0_held_2 (fun r_2 u_2 H locs hw_2 hP hD hS => ?_)
  obtain rfl := hw_2
  refine lv_if_eq (tgt := 17) hx hb dX0_held_5 (by decide) (fun c_5 => ?_) (fun c_5 => ?_)
  · -- jump at 5
    have c_5 := zb_f c_5
    refine lv_ldc2 (v := (-1)) hx hb hown (hts _ kc_X0_35) dX0_held_17 ?_
    exact hret (-1) () _ _ _ _ _ _ (by simp [c_5]) hP hD hS (Nat.le_of_ble_eq_true rfl) (Nat.le_of_ble_eq_true rfl) dX0_held_20
  · -- on at 5
    have c_5 := zb_t c_5
    obtain ⟨k, hk, rfl⟩ := m_layer_k hn c_5
    have hcl : (nI k).toNatClampNeg = k := nI_clamp (by omega)
    refine lv_aload_n hx hb dX0_held_8 rfl (lv_at hl 0 rfl) ?_
    refine va_get (D := D) (ci := 0) (v := .ref (q 1)) (C := RX0) (T := TX0) (N := 18) hx hb hts iw_X0 hown hK hP 0 rfl rfl 0 (by decide) (hts _ kf_X0_50) (fun _ h9 => h9) rfl dX0_held_9 ?_
    refine lv_iload_n hx hb dX0_held_12 rfl (lv_at hl 1 rfl) ?_
    refine za_lald (k := k) (f := (b 1)) (v := b 1 k) hx hb hK hP 1 1 rfl rfl rfl (by omega) (by omega) rfl dX0_held_13 ?_
    refine lv_goto (tgt := 20) hx hb dX0_held_14 (by decide) ?_
    exact hret (b 1 k) () _ _ _ _ _ _ (by simp [c_5, hcl]) hP hD hS (Nat.le_of_ble_eq_true rfl) (Nat.le_of_ble_eq_true rfl) dX0_held_20
def rm_out : Room := { frames := 1, cells := 0, slots := 0, locals := 25 }
set_option maxHeartbeats 4000000 in
set_option maxRecDepth 100000 in
theorem c_out (l : Launch) (D : va_G) (g : Nat → ClassId) (q : Nat → Nat) (n : Nat) (a : Nat → Nat → Int32) (b : Nat → Nat → Int64) (v : Nat → Nat → Int32) (x : Int32) : zc_l l D (tyG g) yX0_out cX0_out 2 (some .long) rm_out [.ref (q 0), .int x] (wL g q n a b v) (fun (r : Int64) (u : Unit) => r = if m_within x.toInt64 0 8 = true then b 8 x.toNatClampNeg else -1) (fun _ => wL g q n a b v) 0 0 := by
  refine zl_of (by decide) (Nat.le_of_ble_eq_true rfl) rfl ?_
  intro p e s m args below meth cd_ A Q ls C0 hnm hP hD hS hl hret
  obtain ⟨hx, hb, hr, hml, hlocks, hown, hts, hK, hA, hN⟩ := id C0
  have hl : lv_has ls 2 [(0, .ref (q 0)), (1, .int x)] := hl
  refine lv_iload_n hx hb dX0_out_0 rfl (lv_at hl 1 rfl) ?_
  refine lv_i2l (v := x.toInt64) hx hb dX0_out_1 rfl ?_
  refine lv_lconst (v := 0) hx hb dX0_out_2 (by decide) ?_
  refine lv_ldc2 (v := 8) hx hb hown (hts _ kc_X0_108) dX0_out_3 ?_
  refine zk_pi (rest := []) C0 hP hD hS (c_within l D (tyG g) x.toInt64 (0 : Int64) (8 : Int64)) kk_X0_46 hl.1 rfl rfl (Nat.le_of_ble_eq_true rfl) ⟨(Nat.le_of_ble_eq_true rfl), (Nat.le_of_ble_eq_true rfl)⟩ rfl rfl ⟨(Nat.le_of_ble_eq_true rfl), (Nat.le_of_ble_eq_true rfl)⟩ dX0_out_6 (fun r_6 H locs hw_6 hP hS => ?_)
  obtain rfl := hw_6
  refine lv_if_eq (tgt := 21) hx hb dX0_out_9 (by decide) (fun c_9 => ?_) (fun c_9 => ?_)
  · -- jump at 9
    have c_9 := zb_f c_9
    refine lv_ldc2 (v := (-1)) hx hb hown (hts _ kc_X0_35) dX0_out_21 ?_
    exact hret (-1) () _ _ _ _ _ _ (by simp [c_9]) hP hD hS (Nat.le_of_ble_eq_true rfl) (Nat.le_of_ble_eq_true rfl) dX0_out_24
  · -- on at 9
    have c_9 := zb_t c_9
    obtain ⟨k, hk, rfl⟩ := m_rng (m := 8) (by decide) (by decide) c_9
    have hcl : (nI k).toNatClampNeg = k := nI_clamp (by omega)
    refine lv_aload_n hx hb dX0_out_12 rfl (lv_at hl 0 rfl) ?_
    refine va_get (D := D) (ci := 0) (v := .ref (q 8)) (C := RX0) (T := TX0) (N := 18) hx hb hts iw_X0 hown hK hP 0 rfl rfl 7 (by decide) (hts _ kf_X0_23) (fun _ h9 => h9) rfl dX0_out_13 ?_
    refine lv_iload_n hx hb dX0_out_16 rfl (lv_at hl 1 rfl) ?_
    refine za_lald (k := k) (f := (b 8)) (v := b 8 k) hx hb hK hP 8 1 rfl rfl rfl (by omega) (by decide) rfl dX0_out_17 ?_
    refine lv_goto (tgt := 24) hx hb dX0_out_18 (by decide) ?_
    exact hret (b 8 k) () _ _ _ _ _ _ (by simp [c_9, hcl]) hP hD hS (Nat.le_of_ble_eq_true rfl) (Nat.le_of_ble_eq_true rfl) dX0_out_24
def rm_balance : Room := { frames := 0, cells := 0, slots := 0, locals := 0 }
set_option maxHeartbeats 4000000 in
set_option maxRecDepth 100000 in
theorem c_balance (l : Launch) (D : va_G) (g : Nat → ClassId) (q : Nat → Nat) (n : Nat) (a : Nat → Nat → Int32) (b : Nat → Nat → Int64) (v : Nat → Nat → Int32) (hn : 1 ≤ n ∧ n ≤ 6) : zc_l l D (tyG g) yX0_balance cX0_balance 4 (some .long) rm_balance [.ref (q 0)] (wL g q n a b v) (fun (r : Int64) (u : Unit) => r = m_bal (b 1) (b 8 0 - b 8 1 - b 8 3 - b 8 4 - b 8 5 - b 8 6 - b 8 7 - b 8 8) n) (fun _ => wL g q n a b v) 0 0 := by
  refine zl_of (by decide) (Nat.le_of_ble_eq_true rfl) rfl ?_
  intro p e s m args below meth cd_ A Q ls C0 hnm hP hD hS hl hret
  obtain ⟨hx, hb, hr, hml, hlocks, hown, hts, hK, hA, hN⟩ := id C0
  have hl : lv_has ls 4 [(0, .ref (q 0))] := hl
  refine lv_aload_n hx hb dX0_balance_0 rfl (lv_at hl 0 rfl) ?_
  refine va_get (D := D) (ci := 0) (v := .ref (q 8)) (C := RX0) (T := TX0) (N := 18) hx hb hts iw_X0 hown hK hP 0 rfl rfl 7 (by decide) (hts _ kf_X0_23) (fun _ h9 => h9) rfl dX0_balance_1 ?_
  refine lv_iconst (v := 0) hx hb dX0_balance_4 (by decide) ?_
  refine za_lald (k := 0) (f := (b 8)) (v := b 8 0) hx hb hK hP 8 1 rfl rfl rfl (by decide) (by decide) rfl dX0_balance_5 ?_
  refine lv_aload_n hx hb dX0_balance_6 rfl (lv_at hl 0 rfl) ?_
  refine va_get (D := D) (ci := 0) (v := .ref (q 8)) (C := RX0) (T := TX0) (N := 18) hx hb hts iw_X0 hown hK hP 0 rfl rfl 7 (by decide) (hts _ kf_X0_23) (fun _ h9 => h9) rfl dX0_balance_7 ?_
  refine lv_iconst (v := 1) hx hb dX0_balance_10 (by decide) ?_
  refine za_lald (k := 1) (f := (b 8)) (v := b 8 1) hx hb hK hP 8 1 rfl rfl rfl (by decide) (by decide) rfl dX0_balance_11 ?_
  refine lv_lsub hx hb dX0_balance_12 ?_
  refine lv_aload_n hx hb dX0_balance_13 rfl (lv_at hl 0 rfl) ?_
  refine va_get (D := D) (ci := 0) (v := .ref (q 8)) (C := RX0) (T := TX0) (N := 18) hx hb hts iw_X0 hown hK hP 0 rfl rfl 7 (by decide) (hts _ kf_X0_23) (fun _ h9 => h9) rfl dX0_balance_14 ?_
  refine lv_iconst (v := 3) hx hb dX0_balance_17 (by decide) ?_
  refine za_lald (k := 3) (f := (b 8)) (v := b 8 3) hx hb hK hP 8 1 rfl rfl rfl (by decide) (by decide) rfl dX0_balance_18 ?_
  refine lv_lsub hx hb dX0_balance_19 ?_
  refine lv_aload_n hx hb dX0_balance_20 rfl (lv_at hl 0 rfl) ?_
  refine va_get (D := D) (ci := 0) (v := .ref (q 8)) (C := RX0) (T := TX0) (N := 18) hx hb hts iw_X0 hown hK hP 0 rfl rfl 7 (by decide) (hts _ kf_X0_23) (fun _ h9 => h9) rfl dX0_balance_21 ?_
  refine lv_iconst (v := 4) hx hb dX0_balance_24 (by decide) ?_
  refine za_lald (k := 4) (f := (b 8)) (v := b 8 4) hx hb hK hP 8 1 rfl rfl rfl (by decide) (by decide) rfl dX0_balance_25 ?_
  refine lv_lsub hx hb dX0_balance_26 ?_
  refine lv_aload_n hx hb dX0_balance_27 rfl (lv_at hl 0 rfl) ?_
  refine va_get (D := D) (ci := 0) (v := .ref (q 8)) (C := RX0) (T := TX0) (N := 18) hx hb hts iw_X0 hown hK hP 0 rfl rfl 7 (by decide) (hts _ kf_X0_23) (fun _ h9 => h9) rfl dX0_balance_28 ?_
  refine lv_iconst (v := 5) hx hb dX0_balance_31 (by decide) ?_
  refine za_lald (k := 5) (f := (b 8)) (v := b 8 5) hx hb hK hP 8 1 rfl rfl rfl (by decide) (by decide) rfl dX0_balance_32 ?_
  refine lv_lsub hx hb dX0_balance_33 ?_
  refine lv_aload_n hx hb dX0_balance_34 rfl (lv_at hl 0 rfl) ?_
  refine va_get (D := D) (ci := 0) (v := .ref (q 8)) (C := RX0) (T := TX0) (N := 18) hx hb hts iw_X0 hown hK hP 0 rfl rfl 7 (by decide) (hts _ kf_X0_23) (fun _ h9 => h9) rfl dX0_balance_35 ?_
  refine lv_bipush (v := 6) hx hb dX0_balance_38 (by decide) ?_
  refine za_lald (k := 6) (f := (b 8)) (v := b 8 6) hx hb hK hP 8 1 rfl rfl rfl (by decide) (by decide) rfl dX0_balance_40 ?_
  refine lv_lsub hx hb dX0_balance_41 ?_
  refine lv_aload_n hx hb dX0_balance_42 rfl (lv_at hl 0 rfl) ?_
  refine va_get (D := D) (ci := 0) (v := .ref (q 8)) (C := RX0) (T := TX0) (N := 18) hx hb hts iw_X0 hown hK hP 0 rfl rfl 7 (by decide) (hts _ kf_X0_23) (fun _ h9 => h9) rfl dX0_balance_43 ?_
  refine lv_bipush (v := 7) hx hb dX0_balance_46 (by decide) ?_
  refine za_lald (k := 7) (f := (b 8)) (v := b 8 7) hx hb hK hP 8 1 rfl rfl rfl (by decide) (by decide) rfl dX0_balance_48 ?_
  refine lv_lsub hx hb dX0_balance_49 ?_
  refine lv_aload_n hx hb dX0_balance_50 rfl (lv_at hl 0 rfl) ?_
  refine va_get (D := D) (ci := 0) (v := .ref (q 8)) (C := RX0) (T := TX0) (N := 18) hx hb hts iw_X0 hown hK hP 0 rfl rfl 7 (by decide) (hts _ kf_X0_23) (fun _ h9 => h9) rfl dX0_balance_51 ?_
  refine lv_bipush (v := 8) hx hb dX0_balance_54 (by decide) ?_
  refine za_lald (k := 8) (f := (b 8)) (v := b 8 8) hx hb hK hP 8 1 rfl rfl rfl (by decide) (by decide) rfl dX0_balance_56 ?_
  refine lv_lsub hx hb dX0_balance_57 ?_
  refine lv_lstore_n (lv' := [(1, .long ((((((((b 8 0) - (b 8 1)) - (b 8 3)) - (b 8 4)) - (b 8 5)) - (b 8 6)) - (b 8 7)) - (b 8 8))), (0, .ref (q 0))]) hx hb dX0_balance_58 rfl hl (by decide) rfl (fun ls hl => ?_)
  refine lv_iconst (v := 0) hx hb dX0_balance_59 (by decide) ?_
  refine lv_istore_n (lv' := [(3, .int 0), (1, .long ((((((((b 8 0) - (b 8 1)) - (b 8 3)) - (b 8 4)) - (b 8 5)) - (b 8 6)) - (b 8 7)) - (b 8 8))), (0, .ref (q 0))]) hx hb dX0_balance_60 rfl hl (by decide) rfl (fun ls hl => ?_)
  have lp_61 : ∀ (t_61 i : Nat) , i + t_61 = n → ∀ (H : Heap) (locs : List Loc) (ls : Array Slot), va_P D vwCl (wL g q n a b v) H → va_D A (wL g q n a b v) → va_S A s.heap H locs → lv_has ls 4 [(3, .int (nI i)), (1, .long (m_bal (b 1) (b 8 0 - b 8 1 - b 8 3 - b 8 4 - b 8 5 - b 8 6 - b 8 7 - b 8 8) i)), (0, .ref (q 0))] → W p l e rm_balance s m args below meth cd_ H locs 0 0 Q (F0 m 61 ls []) := by
    intro t_61
    induction t_61 with
    | zero =>
      intro i hi_61 H locs ls hP hD hS hl
      obtain rfl : n = i := by omega
      refine lv_iload_n hx hb dX0_balance_61 rfl (lv_at hl 0 rfl) ?_
      refine lv_aload_n hx hb dX0_balance_62 rfl (lv_at hl 2 rfl) ?_
      refine va_get (D := D) (ci := 0) (v := .ref (q 1)) (C := RX0) (T := TX0) (N := 18) hx hb hts iw_X0 hown hK hP 0 rfl rfl 0 (by decide) (hts _ kf_X0_50) (fun _ h9 => h9) rfl dX0_balance_63 ?_
      refine va_alen (v := nI n) hx hb hK hP 1 1 rfl rfl rfl dX0_balance_66 ?_
      refine lv_icmp_ge (tgt := 85) hx hb dX0_balance_67 (by decide) (fun _ => ?_) (fun c_67 => absurd (nI_le (Nat.le_refl _) (by omega)) c_67)
      refine lv_lload_n hx hb dX0_balance_85 rfl (lv_at hl 1 rfl) ?_
      exact hret (m_bal (b 1) (b 8 0 - b 8 1 - b 8 3 - b 8 4 - b 8 5 - b 8 6 - b 8 7 - b 8 8) n) () _ _ _ _ _ _ rfl hP hD hS (Nat.le_of_ble_eq_true rfl) (Nat.le_of_ble_eq_true rfl) dX0_balance_86
    | succ t_61 ih_61 =>
      intro i hi_61 H locs ls hP hD hS hl
      refine lv_iload_n hx hb dX0_balance_61 rfl (lv_at hl 0 rfl) ?_
      refine lv_aload_n hx hb dX0_balance_62 rfl (lv_at hl 2 rfl) ?_
      refine va_get (D := D) (ci := 0) (v := .ref (q 1)) (C := RX0) (T := TX0) (N := 18) hx hb hts iw_X0 hown hK hP 0 rfl rfl 0 (by decide) (hts _ kf_X0_50) (fun _ h9 => h9) rfl dX0_balance_63 ?_
      refine va_alen (v := nI n) hx hb hK hP 1 1 rfl rfl rfl dX0_balance_66 ?_
      refine lv_icmp_ge (tgt := 85) hx hb dX0_balance_67 (by decide) (fun c_67 => absurd c_67 (nI_ge (by omega) (by omega))) (fun _ => ?_)
      refine lv_lload_n hx hb dX0_balance_70 rfl (lv_at hl 1 rfl) ?_
      refine lv_aload_n hx hb dX0_balance_71 rfl (lv_at hl 2 rfl) ?_
      refine va_get (D := D) (ci := 0) (v := .ref (q 1)) (C := RX0) (T := TX0) (N := 18) hx hb hts iw_X0 hown hK hP 0 rfl rfl 0 (by decide) (hts _ kf_X0_50) (fun _ h9 => h9) rfl dX0_balance_72 ?_
      refine lv_iload_n hx hb dX0_balance_75 rfl (lv_at hl 0 rfl) ?_
      refine za_lald (k := i) (f := (b 1)) (v := b 1 i) hx hb hK hP 1 1 rfl rfl rfl (by omega) (by omega) rfl dX0_balance_76 ?_
      refine lv_lsub hx hb dX0_balance_77 ?_
      refine lv_lstore_n (lv' := [(1, .long ((m_bal (b 1) (b 8 0 - b 8 1 - b 8 3 - b 8 4 - b 8 5 - b 8 6 - b 8 7 - b 8 8) i) - (b 1 i))), (3, .int (nI i)), (0, .ref (q 0))]) hx hb dX0_balance_78 rfl hl (by decide) rfl (fun ls hl => ?_)
      refine lv_iinc (v := nI (i + 1)) (lv' := [(3, .int (nI (i + 1))), (1, .long ((m_bal (b 1) (b 8 0 - b 8 1 - b 8 3 - b 8 4 - b 8 5 - b 8 6 - b 8 7 - b 8 8) i) - (b 1 i))), (0, .ref (q 0))]) hx hb dX0_balance_79 hl (k := 1) rfl (nI_1 i) (by decide) rfl (fun ls hl => ?_)
      refine lv_goto (tgt := 61) hx hb dX0_balance_82 (by decide) ?_
      have hP : va_P D vwCl (wL g q n a b v) _ := hP
      have hD : va_D A (wL g q n a b v) := hD
      have hl : lv_has ls 4 [(3, .int (nI (i + 1))), (1, .long (m_bal (b 1) (b 8 0 - b 8 1 - b 8 3 - b 8 4 - b 8 5 - b 8 6 - b 8 7 - b 8 8) (i + 1))), (0, .ref (q 0))] := lv_sub hl [0, 1, 2] rfl
      exact ih_61 (i + 1)  (by omega)  _ _ _ hP hD hS hl
  exact lp_61 (n - 0) 0  (by omega)  _ _ _ hP hD hS (lv_sub hl [0, 1, 2] rfl)
def rm_dayThatPasses : Room := { frames := 0, cells := 0, slots := 0, locals := 0 }
set_option maxHeartbeats 4000000 in
set_option maxRecDepth 100000 in
theorem c_dayThatPasses (l : Launch) (D : va_G) (g : Nat → ClassId) (q : Nat → Nat) (n : Nat) (a : Nat → Nat → Int32) (b : Nat → Nat → Int64) (v : Nat → Nat → Int32) (d : Nat) (hd : a 0 4 = nI d) (hd4 : d ≤ 400) (k : Int32) : zc_i l D (tyG g) yX0_dayThatPasses cX0_dayThatPasses 4 (some .int) rm_dayThatPasses [.ref (q 0), .int k] (wL g q n a b v) (fun (r : Int32) (u : Unit) => r = if b 0 1 = -1 then -1 else m_dp (b 7) (b 0 1) k d 0 0) (fun _ => wL g q n a b v) 0 0 := by
  refine zi_of (by decide) (Nat.le_of_ble_eq_true rfl) rfl ?_
  intro p e s m args below meth cd_ A Q ls C0 hnm hP hD hS hl hret
  obtain ⟨hx, hb, hr, hml, hlocks, hown, hts, hK, hA, hN⟩ := id C0
  have hl : lv_has ls 4 [(0, .ref (q 0)), (1, .int k)] := hl
  refine lv_aload_n hx hb dX0_dayThatPasses_0 rfl (lv_at hl 0 rfl) ?_
  refine va_get (D := D) (ci := 0) (v := .long (b 0 1)) (C := RX0) (T := TX0) (N := 18) hx hb hts iw_X0 hown hK hP 0 rfl rfl 16 (by decide) (hts _ kf_X0_37) (fun _ h9 => h9) rfl dX0_dayThatPasses_1 ?_
  refine lv_ldc2 (v := (-1)) hx hb hown (hts _ kc_X0_35) dX0_dayThatPasses_4 ?_
  refine zl_ne (tgt := 13) hx hb dX0_dayThatPasses_7 dX0_dayThatPasses_8 (by decide) (fun c_7 => ?_) (fun c_7 => ?_)
  · -- jump at 7
    refine lv_iconst (v := 0) hx hb dX0_dayThatPasses_13 (by decide) ?_
    refine lv_istore_n (lv' := [(2, .int 0), (0, .ref (q 0)), (1, .int k)]) hx hb dX0_dayThatPasses_14 rfl hl (by decide) rfl (fun ls hl => ?_)
    refine lv_iconst (v := 0) hx hb dX0_dayThatPasses_15 (by decide) ?_
    refine lv_istore_n (lv' := [(3, .int 0), (2, .int 0), (0, .ref (q 0)), (1, .int k)]) hx hb dX0_dayThatPasses_16 rfl hl (by decide) rfl (fun ls hl => ?_)
    have lp_17 : ∀ (t_17 i : Nat) (z : Int32), i + t_17 = d → m_dp (b 7) (b 0 1) k d 0 0 = m_dp (b 7) (b 0 1) k t_17 i z → ∀ (H : Heap) (locs : List Loc) (ls : Array Slot), va_P D vwCl (wL g q n a b v) H → va_D A (wL g q n a b v) → va_S A s.heap H locs → lv_has ls 4 [(3, .int (nI i)), (2, .int z), (0, .ref (q 0)), (1, .int k)] → W p l e rm_dayThatPasses s m args below meth cd_ H locs 0 0 Q (F0 m 17 ls []) := by
      intro t_17
      induction t_17 with
      | zero =>
        intro i z hi_17 heq H locs ls hP hD hS hl
        obtain rfl : d = i := by omega
        refine lv_iload_n hx hb dX0_dayThatPasses_17 rfl (lv_at hl 0 rfl) ?_
        refine lv_aload_n hx hb dX0_dayThatPasses_18 rfl (lv_at hl 2 rfl) ?_
        refine va_get (D := D) (ci := 0) (v := .int (a 0 4)) (C := RX0) (T := TX0) (N := 18) hx hb hts iw_X0 hown hK hP 0 rfl rfl 15 (by decide) (hts _ kf_X0_93) (fun _ h9 => h9) rfl dX0_dayThatPasses_19 ?_
        rw [hd]
        refine lv_icmp_ge (tgt := 55) hx hb dX0_dayThatPasses_22 (by decide) (fun _ => ?_) (fun c_22 => absurd (nI_le (Nat.le_refl _) (by omega)) c_22)
        refine lv_iconst (v := (-1)) hx hb dX0_dayThatPasses_55 (by decide) ?_
        exact hret (-1) () _ _ _ _ _ _ (vp_nar_int _) (by first | exact (if_pos c_7).symm | exact ((if_neg c_7).trans (heq.trans ((if_neg c_35).trans (if_pos c_41)))).symm | exact ((if_neg c_7).trans heq).symm) hP hD hS (Nat.le_of_ble_eq_true rfl) (Nat.le_of_ble_eq_true rfl) dX0_dayThatPasses_56
      | succ t_17 ih_17 =>
        intro i z hi_17 heq H locs ls hP hD hS hl
        refine lv_iload_n hx hb dX0_dayThatPasses_17 rfl (lv_at hl 0 rfl) ?_
        refine lv_aload_n hx hb dX0_dayThatPasses_18 rfl (lv_at hl 2 rfl) ?_
        refine va_get (D := D) (ci := 0) (v := .int (a 0 4)) (C := RX0) (T := TX0) (N := 18) hx hb hts iw_X0 hown hK hP 0 rfl rfl 15 (by decide) (hts _ kf_X0_93) (fun _ h9 => h9) rfl dX0_dayThatPasses_19 ?_
        rw [hd]
        refine lv_icmp_ge (tgt := 55) hx hb dX0_dayThatPasses_22 (by decide) (fun c_22 => absurd c_22 (nI_ge (by omega) (by omega))) (fun _ => ?_)
        refine lv_aload_n hx hb dX0_dayThatPasses_25 rfl (lv_at hl 2 rfl) ?_
        refine va_get (D := D) (ci := 0) (v := .ref (q 7)) (C := RX0) (T := TX0) (N := 18) hx hb hts iw_X0 hown hK hP 0 rfl rfl 6 (by decide) (hts _ kf_X0_19) (fun _ h9 => h9) rfl dX0_dayThatPasses_26 ?_
        refine lv_iload_n hx hb dX0_dayThatPasses_29 rfl (lv_at hl 0 rfl) ?_
        refine za_lald (k := i) (f := (b 7)) (v := b 7 i) hx hb hK hP 7 1 rfl rfl rfl (by omega) (by decide) rfl dX0_dayThatPasses_30 ?_
        refine lv_aload_n hx hb dX0_dayThatPasses_31 rfl (lv_at hl 2 rfl) ?_
        refine va_get (D := D) (ci := 0) (v := .long (b 0 1)) (C := RX0) (T := TX0) (N := 18) hx hb hts iw_X0 hown hK hP 0 rfl rfl 16 (by decide) (hts _ kf_X0_37) (fun _ h9 => h9) rfl dX0_dayThatPasses_32 ?_
        refine zl_le (tgt := 49) hx hb dX0_dayThatPasses_35 dX0_dayThatPasses_36 (by decide) (fun c_35 => ?_) (fun c_35 => ?_)
        · -- jump at 35
          refine lv_iinc (v := nI (i + 1)) (lv' := [(3, .int (nI (i + 1))), (2, .int z), (0, .ref (q 0)), (1, .int k)]) hx hb dX0_dayThatPasses_49 hl (k := 0) rfl (nI_1 i) (by decide) rfl (fun ls hl => ?_)
          refine lv_goto (tgt := 17) hx hb dX0_dayThatPasses_52 (by decide) ?_
          have hP : va_P D vwCl (wL g q n a b v) _ := hP
          have hD : va_D A (wL g q n a b v) := hD
          have hl : lv_has ls 4 [(3, .int (nI (i + 1))), (2, .int z), (0, .ref (q 0)), (1, .int k)] := lv_sub hl [0, 1, 2, 3] rfl
          exact ih_17 (i + 1) z (by omega) (heq.trans (if_pos c_35)) _ _ _ hP hD hS hl
        · -- on at 35
          refine lv_iload_n hx hb dX0_dayThatPasses_39 rfl (lv_at hl 1 rfl) ?_
          refine lv_iload_n hx hb dX0_dayThatPasses_40 rfl (lv_at hl 3 rfl) ?_
          refine lv_icmp_ne (tgt := 46) hx hb dX0_dayThatPasses_41 (by decide) (fun c_41 => ?_) (fun c_41 => ?_)
          · -- jump at 41
            refine lv_iinc (v := z + 1) (lv' := [(2, .int (z + 1)), (3, .int (nI i)), (0, .ref (q 0)), (1, .int k)]) hx hb dX0_dayThatPasses_46 hl (k := 1) rfl rfl (by decide) rfl (fun ls hl => ?_)
            refine lv_iinc (v := nI (i + 1)) (lv' := [(3, .int (nI (i + 1))), (2, .int (z + 1)), (0, .ref (q 0)), (1, .int k)]) hx hb dX0_dayThatPasses_49 hl (k := 1) rfl (nI_1 i) (by decide) rfl (fun ls hl => ?_)
            refine lv_goto (tgt := 17) hx hb dX0_dayThatPasses_52 (by decide) ?_
            have hP : va_P D vwCl (wL g q n a b v) _ := hP
            have hD : va_D A (wL g q n a b v) := hD
            have hl : lv_has ls 4 [(3, .int (nI (i + 1))), (2, .int (z + 1)), (0, .ref (q 0)), (1, .int k)] := lv_sub hl [0, 1, 2, 3] rfl
            exact ih_17 (i + 1) (z + 1) (by omega) (heq.trans ((if_neg c_35).trans (if_neg c_41))) _ _ _ hP hD hS hl
          · -- on at 41
            refine lv_iload_n hx hb dX0_dayThatPasses_44 rfl (lv_at hl 0 rfl) ?_
            exact hret (nI i) () _ _ _ _ _ _ (vp_nar_int _) (by first | exact (if_pos c_7).symm | exact ((if_neg c_7).trans (heq.trans ((if_neg c_35).trans (if_pos c_41)))).symm | exact ((if_neg c_7).trans heq).symm) hP hD hS (Nat.le_of_ble_eq_true rfl) (Nat.le_of_ble_eq_true rfl) dX0_dayThatPasses_45
    exact lp_17 (d - 0) 0 0 (by omega) rfl _ _ _ hP hD hS (lv_sub hl [0, 1, 2, 3] rfl)
  · -- on at 7
    refine lv_iconst (v := (-1)) hx hb dX0_dayThatPasses_11 (by decide) ?_
    exact hret (-1) () _ _ _ _ _ _ (vp_nar_int _) (by first | exact (if_pos c_7).symm | exact ((if_neg c_7).trans (heq.trans ((if_neg c_35).trans (if_pos c_41)))).symm | exact ((if_neg c_7).trans heq).symm) hP hD hS (Nat.le_of_ble_eq_true rfl) (Nat.le_of_ble_eq_true rfl) dX0_dayThatPasses_12
def rm_dayUpToWhichMeanPasses : Room := { frames := 0, cells := 0, slots := 0, locals := 0 }
set_option maxHeartbeats 4000000 in
set_option maxRecDepth 100000 in
theorem c_dayUpToWhichMeanPasses (l : Launch) (D : va_G) (g : Nat → ClassId) (q : Nat → Nat) (n : Nat) (a : Nat → Nat → Int32) (b : Nat → Nat → Int64) (v : Nat → Nat → Int32) (d : Nat) (hd : a 0 4 = nI d) (hd4 : d ≤ 400) (k : Int32) : zc_i l D (tyG g) yX0_dayUpToWhichMeanPasses cX0_dayUpToWhichMeanPasses 6 (some .int) rm_dayUpToWhichMeanPasses [.ref (q 0), .int k] (wL g q n a b v) (fun (r : Int32) (u : Unit) => r = if b 0 2 = -1 then -1 else m_mp (b 7) (b 0 2) k d 0 0 0) (fun _ => wL g q n a b v) 0 0 := by
  refine zi_of (by decide) (Nat.le_of_ble_eq_true rfl) rfl ?_
  intro p e s m args below meth cd_ A Q ls C0 hnm hP hD hS hl hret
  obtain ⟨hx, hb, hr, hml, hlocks, hown, hts, hK, hA, hN⟩ := id C0
  have hl : lv_has ls 6 [(0, .ref (q 0)), (1, .int k)] := hl
  refine lv_aload_n hx hb dX0_dayUpToWhichMeanPasses_0 rfl (lv_at hl 0 rfl) ?_
  refine va_get (D := D) (ci := 0) (v := .long (b 0 2)) (C := RX0) (T := TX0) (N := 18) hx hb hts iw_X0 hown hK hP 0 rfl rfl 17 (by decide) (hts _ kf_X0_41) (fun _ h9 => h9) rfl dX0_dayUpToWhichMeanPasses_1 ?_
  refine lv_ldc2 (v := (-1)) hx hb hown (hts _ kc_X0_35) dX0_dayUpToWhichMeanPasses_4 ?_
  refine zl_ne (tgt := 13) hx hb dX0_dayUpToWhichMeanPasses_7 dX0_dayUpToWhichMeanPasses_8 (by decide) (fun c_7 => ?_) (fun c_7 => ?_)
  · -- jump at 7
    refine lv_iconst (v := 0) hx hb dX0_dayUpToWhichMeanPasses_13 (by decide) ?_
    refine lv_istore_n (lv' := [(2, .int 0), (0, .ref (q 0)), (1, .int k)]) hx hb dX0_dayUpToWhichMeanPasses_14 rfl hl (by decide) rfl (fun ls hl => ?_)
    refine lv_lconst (v := 0) hx hb dX0_dayUpToWhichMeanPasses_15 (by decide) ?_
    refine lv_lstore_n (lv' := [(3, .long 0), (2, .int 0), (0, .ref (q 0)), (1, .int k)]) hx hb dX0_dayUpToWhichMeanPasses_16 rfl hl (by decide) rfl (fun ls hl => ?_)
    refine lv_iconst (v := 0) hx hb dX0_dayUpToWhichMeanPasses_17 (by decide) ?_
    refine lv_istore (lv' := [(5, .int 0), (3, .long 0), (2, .int 0), (0, .ref (q 0)), (1, .int k)]) hx hb dX0_dayUpToWhichMeanPasses_18 hl (by decide) rfl (fun ls hl => ?_)
    have lp_20 : ∀ (t_20 i : Nat) (z : Int32) (x : Int64), i + t_20 = d → m_mp (b 7) (b 0 2) k d 0 0 0 = m_mp (b 7) (b 0 2) k t_20 i x z → ∀ (H : Heap) (locs : List Loc) (ls : Array Slot), va_P D vwCl (wL g q n a b v) H → va_D A (wL g q n a b v) → va_S A s.heap H locs → lv_has ls 6 [(5, .int (nI i)), (2, .int z), (3, .long x), (0, .ref (q 0)), (1, .int k)] → W p l e rm_dayUpToWhichMeanPasses s m args below meth cd_ H locs 0 0 Q (F0 m 20 ls []) := by
      intro t_20
      induction t_20 with
      | zero =>
        intro i z x hi_20 heq H locs ls hP hD hS hl
        obtain rfl : d = i := by omega
        refine lv_iload hx hb dX0_dayUpToWhichMeanPasses_20 (lv_at hl 0 rfl) ?_
        refine lv_aload_n hx hb dX0_dayUpToWhichMeanPasses_22 rfl (lv_at hl 3 rfl) ?_
        refine va_get (D := D) (ci := 0) (v := .int (a 0 4)) (C := RX0) (T := TX0) (N := 18) hx hb hts iw_X0 hown hK hP 0 rfl rfl 15 (by decide) (hts _ kf_X0_93) (fun _ h9 => h9) rfl dX0_dayUpToWhichMeanPasses_23 ?_
        rw [hd]
        refine lv_icmp_ge (tgt := 71) hx hb dX0_dayUpToWhichMeanPasses_26 (by decide) (fun _ => ?_) (fun c_26 => absurd (nI_le (Nat.le_refl _) (by omega)) c_26)
        refine lv_iconst (v := (-1)) hx hb dX0_dayUpToWhichMeanPasses_71 (by decide) ?_
        exact hret (-1) () _ _ _ _ _ _ (vp_nar_int _) (by first | exact (if_pos c_7).symm | exact ((if_neg c_7).trans (heq.trans ((if_neg c_50).trans (if_pos c_56)))).symm | exact ((if_neg c_7).trans heq).symm) hP hD hS (Nat.le_of_ble_eq_true rfl) (Nat.le_of_ble_eq_true rfl) dX0_dayUpToWhichMeanPasses_72
      | succ t_20 ih_20 =>
        intro i z x hi_20 heq H locs ls hP hD hS hl
        refine lv_iload hx hb dX0_dayUpToWhichMeanPasses_20 (lv_at hl 0 rfl) ?_
        refine lv_aload_n hx hb dX0_dayUpToWhichMeanPasses_22 rfl (lv_at hl 3 rfl) ?_
        refine va_get (D := D) (ci := 0) (v := .int (a 0 4)) (C := RX0) (T := TX0) (N := 18) hx hb hts iw_X0 hown hK hP 0 rfl rfl 15 (by decide) (hts _ kf_X0_93) (fun _ h9 => h9) rfl dX0_dayUpToWhichMeanPasses_23 ?_
        rw [hd]
        refine lv_icmp_ge (tgt := 71) hx hb dX0_dayUpToWhichMeanPasses_26 (by decide) (fun c_26 => absurd c_26 (nI_ge (by omega) (by omega))) (fun _ => ?_)
        refine lv_lload_n hx hb dX0_dayUpToWhichMeanPasses_29 rfl (lv_at hl 2 rfl) ?_
        refine lv_aload_n hx hb dX0_dayUpToWhichMeanPasses_30 rfl (lv_at hl 3 rfl) ?_
        refine va_get (D := D) (ci := 0) (v := .ref (q 7)) (C := RX0) (T := TX0) (N := 18) hx hb hts iw_X0 hown hK hP 0 rfl rfl 6 (by decide) (hts _ kf_X0_19) (fun _ h9 => h9) rfl dX0_dayUpToWhichMeanPasses_31 ?_
        refine lv_iload hx hb dX0_dayUpToWhichMeanPasses_34 (lv_at hl 0 rfl) ?_
        refine za_lald (k := i) (f := (b 7)) (v := b 7 i) hx hb hK hP 7 1 rfl rfl rfl (by omega) (by decide) rfl dX0_dayUpToWhichMeanPasses_36 ?_
        refine lv_ladd hx hb dX0_dayUpToWhichMeanPasses_37 ?_
        refine lv_lstore_n (lv' := [(3, .long (x + (b 7 i))), (5, .int (nI i)), (2, .int z), (0, .ref (q 0)), (1, .int k)]) hx hb dX0_dayUpToWhichMeanPasses_38 rfl hl (by decide) rfl (fun ls hl => ?_)
        refine lv_lload_n hx hb dX0_dayUpToWhichMeanPasses_39 rfl (lv_at hl 0 rfl) ?_
        refine lv_aload_n hx hb dX0_dayUpToWhichMeanPasses_40 rfl (lv_at hl 3 rfl) ?_
        refine va_get (D := D) (ci := 0) (v := .long (b 0 2)) (C := RX0) (T := TX0) (N := 18) hx hb hts iw_X0 hown hK hP 0 rfl rfl 17 (by decide) (hts _ kf_X0_41) (fun _ h9 => h9) rfl dX0_dayUpToWhichMeanPasses_41 ?_
        refine lv_iload hx hb dX0_dayUpToWhichMeanPasses_44 (lv_at hl 1 rfl) ?_
        refine lv_iconst (v := 1) hx hb dX0_dayUpToWhichMeanPasses_46 (by decide) ?_
        refine lv_iadd hx hb dX0_dayUpToWhichMeanPasses_47 ?_
        rw [show (nI i) + 1 = nI (i + 1) from nI_1 i]
        refine lv_i2l (v := (nI (i + 1)).toInt64) hx hb dX0_dayUpToWhichMeanPasses_48 rfl ?_
        refine lv_lmul hx hb dX0_dayUpToWhichMeanPasses_49 ?_
        refine zl_le (tgt := 65) hx hb dX0_dayUpToWhichMeanPasses_50 dX0_dayUpToWhichMeanPasses_51 (by decide) (fun c_50 => ?_) (fun c_50 => ?_)
        · -- jump at 50
          refine lv_iinc (v := nI (i + 1)) (lv' := [(5, .int (nI (i + 1))), (3, .long (x + (b 7 i))), (2, .int z), (0, .ref (q 0)), (1, .int k)]) hx hb dX0_dayUpToWhichMeanPasses_65 hl (k := 1) rfl (nI_1 i) (by decide) rfl (fun ls hl => ?_)
          refine lv_goto (tgt := 20) hx hb dX0_dayUpToWhichMeanPasses_68 (by decide) ?_
          have hP : va_P D vwCl (wL g q n a b v) _ := hP
          have hD : va_D A (wL g q n a b v) := hD
          have hl : lv_has ls 6 [(5, .int (nI (i + 1))), (2, .int z), (3, .long (x + b 7 i)), (0, .ref (q 0)), (1, .int k)] := lv_sub hl [0, 2, 1, 3, 4] rfl
          exact ih_20 (i + 1) z (x + b 7 i) (by omega) (heq.trans (if_pos c_50)) _ _ _ hP hD hS hl
        · -- on at 50
          refine lv_iload_n hx hb dX0_dayUpToWhichMeanPasses_54 rfl (lv_at hl 2 rfl) ?_
          refine lv_iload_n hx hb dX0_dayUpToWhichMeanPasses_55 rfl (lv_at hl 4 rfl) ?_
          refine lv_icmp_ne (tgt := 62) hx hb dX0_dayUpToWhichMeanPasses_56 (by decide) (fun c_56 => ?_) (fun c_56 => ?_)
          · -- jump at 56
            refine lv_iinc (v := z + 1) (lv' := [(2, .int (z + 1)), (3, .long (x + (b 7 i))), (5, .int (nI i)), (0, .ref (q 0)), (1, .int k)]) hx hb dX0_dayUpToWhichMeanPasses_62 hl (k := 2) rfl rfl (by decide) rfl (fun ls hl => ?_)
            refine lv_iinc (v := nI (i + 1)) (lv' := [(5, .int (nI (i + 1))), (2, .int (z + 1)), (3, .long (x + (b 7 i))), (0, .ref (q 0)), (1, .int k)]) hx hb dX0_dayUpToWhichMeanPasses_65 hl (k := 2) rfl (nI_1 i) (by decide) rfl (fun ls hl => ?_)
            refine lv_goto (tgt := 20) hx hb dX0_dayUpToWhichMeanPasses_68 (by decide) ?_
            have hP : va_P D vwCl (wL g q n a b v) _ := hP
            have hD : va_D A (wL g q n a b v) := hD
            have hl : lv_has ls 6 [(5, .int (nI (i + 1))), (2, .int (z + 1)), (3, .long (x + b 7 i)), (0, .ref (q 0)), (1, .int k)] := lv_sub hl [0, 1, 2, 3, 4] rfl
            exact ih_20 (i + 1) (z + 1) (x + b 7 i) (by omega) (heq.trans ((if_neg c_50).trans (if_neg c_56))) _ _ _ hP hD hS hl
          · -- on at 56
            refine lv_iload hx hb dX0_dayUpToWhichMeanPasses_59 (lv_at hl 1 rfl) ?_
            exact hret (nI i) () _ _ _ _ _ _ (vp_nar_int _) (by first | exact (if_pos c_7).symm | exact ((if_neg c_7).trans (heq.trans ((if_neg c_50).trans (if_pos c_56)))).symm | exact ((if_neg c_7).trans heq).symm) hP hD hS (Nat.le_of_ble_eq_true rfl) (Nat.le_of_ble_eq_true rfl) dX0_dayUpToWhichMeanPasses_61
    exact lp_20 (d - 0) 0 0 0 (by omega) rfl _ _ _ hP hD hS (lv_sub hl [0, 2, 1, 3, 4] rfl)
  · -- on at 7
    refine lv_iconst (v := (-1)) hx hb dX0_dayUpToWhichMeanPasses_11 (by decide) ?_
    exact hret (-1) () _ _ _ _ _ _ (vp_nar_int _) (by first | exact (if_pos c_7).symm | exact ((if_neg c_7).trans (heq.trans ((if_neg c_50).trans (if_pos c_56)))).symm | exact ((if_neg c_7).trans heq).symm) hP hD hS (Nat.le_of_ble_eq_true rfl) (Nat.le_of_ble_eq_true rfl) dX0_dayUpToWhichMeanPasses_12
def rm_passed : Room := { frames := 1, cells := 0, slots := 0, locals := 25 }
set_option maxHeartbeats 4000000 in
set_option maxRecDepth 100000 in
theorem c_passed (l : Launch) (D : va_G) (g : Nat → ClassId) (q : Nat → Nat) (n : Nat) (a : Nat → Nat → Int32) (b : Nat → Nat → Int64) (v : Nat → Nat → Int32) (d : Nat) (hd : a 0 4 = nI d) (hd4 : d ≤ 400) (x k : Int32) : zc_i l D (tyG g) yX0_passed cX0_passed 3 (some .int) rm_passed [.ref (q 0), .int x, .int k] (wL g q n a b v) (fun (r : Int32) (u : Unit) => r = if x = 0 then (if b 0 1 = -1 then -1 else m_dp (b 7) (b 0 1) k d 0 0) else if x = 1 then (if b 0 2 = -1 then -1 else m_mp (b 7) (b 0 2) k d 0 0 0) else -1) (fun _ => wL g q n a b v) 0 0 := by
  refine zi_of (by decide) (Nat.le_of_ble_eq_true rfl) rfl ?_
  intro p e s m args below meth cd_ A Q ls C0 hnm hP hD hS hl hret
  obtain ⟨hx, hb, hr, hml, hlocks, hown, hts, hK, hA, hN⟩ := id C0
  have hl : lv_has ls 3 [(0, .ref (q 0)), (1, .int x), (2, .int k)] := hl
  refine lv_iload_n hx hb dX0_passed_0 rfl (lv_at hl 1 rfl) ?_
  refine lv_if_ne (tgt := 10) hx hb dX0_passed_1 (by decide) (fun c_1 => ?_) (fun c_1 => ?_)
  · -- jump at 1
    refine lv_iload_n hx hb dX0_passed_10 rfl (lv_at hl 1 rfl) ?_
    refine lv_iconst (v := 1) hx hb dX0_passed_11 (by decide) ?_
    refine lv_icmp_ne (tgt := 23) hx hb dX0_passed_12 (by decide) (fun c_12 => ?_) (fun c_12 => ?_)
    · -- jump at 12
      refine lv_iconst (v := (-1)) hx hb dX0_passed_23 (by decide) ?_
      exact hret (-1) () _ _ _ _ _ _ (vp_nar_int _) (by first | exact (if_pos c_1).symm | exact ((if_neg c_1).trans (if_pos c_12)).symm | exact ((if_neg c_1).trans (if_neg c_12)).symm) hP hD hS (Nat.le_of_ble_eq_true rfl) (Nat.le_of_ble_eq_true rfl) dX0_passed_24
    · -- on at 12
      refine lv_aload_n hx hb dX0_passed_15 rfl (lv_at hl 0 rfl) ?_
      refine lv_iload_n hx hb dX0_passed_16 rfl (lv_at hl 2 rfl) ?_
      refine zf_vi (rest := []) C0 hP hD hS (c_dayUpToWhichMeanPasses l D g q n a b v d hd hd4 k) kk_X0_114 kv_X0_114 0 rfl 0 rfl hl.1 rfl rfl (Nat.le_of_ble_eq_true rfl) ⟨(Nat.le_of_ble_eq_true rfl), (Nat.le_of_ble_eq_true rfl)⟩ rfl rfl ⟨(Nat.le_of_ble_eq_true rfl), (Nat.le_of_ble_eq_true rfl)⟩ dX0_passed_17 (fun r_17 u_17 H locs hw_17 hP hD hS => ?_)
      obtain rfl := hw_17
      refine lv_goto (tgt := 24) hx hb dX0_passed_20 (by decide) ?_
      exact hret (if b 0 2 = -1 then -1 else m_mp (b 7) (b 0 2) k d 0 0 0) () _ _ _ _ _ _ (vp_nar_int _) (by first | exact (if_pos c_1).symm | exact ((if_neg c_1).trans (if_pos c_12)).symm | exact ((if_neg c_1).trans (if_neg c_12)).symm) hP hD hS (Nat.le_of_ble_eq_true rfl) (Nat.le_of_ble_eq_true rfl) dX0_passed_24
  · -- on at 1
    refine lv_aload_n hx hb dX0_passed_4 rfl (lv_at hl 0 rfl) ?_
    refine lv_iload_n hx hb dX0_passed_5 rfl (lv_at hl 2 rfl) ?_
    refine zf_vi (rest := []) C0 hP hD hS (c_dayThatPasses l D g q n a b v d hd hd4 k) kk_X0_110 kv_X0_110 0 rfl 0 rfl hl.1 rfl rfl (Nat.le_of_ble_eq_true rfl) ⟨(Nat.le_of_ble_eq_true rfl), (Nat.le_of_ble_eq_true rfl)⟩ rfl rfl ⟨(Nat.le_of_ble_eq_true rfl), (Nat.le_of_ble_eq_true rfl)⟩ dX0_passed_6 (fun r_6 u_6 H locs hw_6 hP hD hS => ?_)
    obtain rfl := hw_6
    exact hret (if b 0 1 = -1 then -1 else m_dp (b 7) (b 0 1) k d 0 0) () _ _ _ _ _ _ (vp_nar_int _) (by first | exact (if_pos c_1).symm | exact ((if_neg c_1).trans (if_pos c_12)).symm | exact ((if_neg c_1).trans (if_neg c_12)).symm) hP hD hS (Nat.le_of_ble_eq_true rfl) (Nat.le_of_ble_eq_true rfl) dX0_passed_9
end
section
def rm_has : Room := { frames := 0, cells := 0, slots := 0, locals := 0 }
set_option maxHeartbeats 4000000 in
set_option maxRecDepth 100000 in
theorem c_has (l : Launch) (D : va_G) (g : Nat → ClassId) (q : Nat → Nat) (n : Nat) (a : Nat → Nat → Int32) (b : Nat → Nat → Int64) (v : Nat → Nat → Int32) (w : Nat) (hw4 : w < 4) (c : Nat) (hc : a 11 w = nI c) (hc8 : c ≤ 8) (x : Int32) : zc_i l D (tyG g) yX1_has cX1_has 3 (some .boolean) rm_has [.ref (q (11 + w)), .int x] (wL g q n a b v) (fun (r : Int32) (u : Unit) => r = zb (m_has (v w) x c)) (fun _ => wL g q n a b v) 0 0 := by
  refine zi_of (by decide) (Nat.le_of_ble_eq_true rfl) rfl ?_
  intro p e s m args below meth cd_ A Q ls C0 hnm hP hD hS hl hret
  obtain ⟨hx, hb, hr, hml, hlocks, hown, hts, hK, hA, hN⟩ := id C0
  have hl : lv_has ls 3 [(0, .ref (q (11 + w))), (1, .int x)] := hl
  refine lv_iconst (v := 0) hx hb dX1_has_0 (by decide) ?_
  refine lv_istore_n (lv' := [(2, .int 0), (0, .ref (q (11 + w))), (1, .int x)]) hx hb dX1_has_1 rfl hl (by decide) rfl (fun ls hl => ?_)
  have lp_2 : ∀ (t_2 i : Nat) , i + t_2 = c → (∀ j, j < i → ¬ v w j = x) → ∀ (H : Heap) (locs : List Loc) (ls : Array Slot), va_P D vwCl (wL g q n a b v) H → va_D A (wL g q n a b v) → va_S A s.heap H locs → lv_has ls 3 [(2, .int (nI i)), (0, .ref (q (11 + w))), (1, .int x)] → W p l e rm_has s m args below meth cd_ H locs 0 0 Q (F0 m 2 ls []) := by
    intro t_2
    induction t_2 with
    | zero =>
      intro i hi_2 hne H locs ls hP hD hS hl
      obtain rfl : c = i := by omega
      refine lv_iload_n hx hb dX1_has_2 rfl (lv_at hl 0 rfl) ?_
      refine lv_aload_n hx hb dX1_has_3 rfl (lv_at hl 1 rfl) ?_
      refine va_get (D := D) (ci := 1) (v := .int (a 11 w)) (C := RX1) (T := TX1) (N := 3) hx hb hts iw_X1 hown hK hP (11 + w) (wL_w w hw4) rfl 1 (by decide) (hts _ kf_X1_19) (fun _ h9 => h9) rfl dX1_has_4 ?_
      rw [hc]
      refine lv_icmp_ge (tgt := 28) hx hb dX1_has_7 (by decide) (fun _ => ?_) (fun c_7 => absurd (nI_le (Nat.le_refl _) (by omega)) c_7)
      refine lv_iconst (v := 0) hx hb dX1_has_28 (by decide) ?_
      exact hret 0 () _ _ _ _ _ _ rfl (by first | exact m_has_t (by omega) c_17 | exact m_has_f hne) hP hD hS (Nat.le_of_ble_eq_true rfl) (Nat.le_of_ble_eq_true rfl) dX1_has_29
    | succ t_2 ih_2 =>
      intro i hi_2 hne H locs ls hP hD hS hl
      refine lv_iload_n hx hb dX1_has_2 rfl (lv_at hl 0 rfl) ?_
      refine lv_aload_n hx hb dX1_has_3 rfl (lv_at hl 1 rfl) ?_
      refine va_get (D := D) (ci := 1) (v := .int (a 11 w)) (C := RX1) (T := TX1) (N := 3) hx hb hts iw_X1 hown hK hP (11 + w) (wL_w w hw4) rfl 1 (by decide) (hts _ kf_X1_19) (fun _ h9 => h9) rfl dX1_has_4 ?_
      rw [hc]
      refine lv_icmp_ge (tgt := 28) hx hb dX1_has_7 (by decide) (fun c_7 => absurd c_7 (nI_ge (by omega) (by omega))) (fun _ => ?_)
      refine lv_aload_n hx hb dX1_has_10 rfl (lv_at hl 1 rfl) ?_
      refine va_get (D := D) (ci := 1) (v := .ref (q (15 + w))) (C := RX1) (T := TX1) (N := 3) hx hb hts iw_X1 hown hK hP (11 + w) (wL_w w hw4) rfl 0 (by decide) (hts _ kf_X1_9) (fun _ h9 => h9) rfl dX1_has_11 ?_
      refine lv_iload_n hx hb dX1_has_14 rfl (lv_at hl 0 rfl) ?_
      refine za_iald (k := i) (f := (v w)) (v := v w i) hx hb hK hP (15 + w) 0 (wL_v w hw4) rfl rfl (by omega) (by decide) rfl dX1_has_15 ?_
      refine lv_iload_n hx hb dX1_has_16 rfl (lv_at hl 2 rfl) ?_
      refine lv_icmp_ne (tgt := 22) hx hb dX1_has_17 (by decide) (fun c_17 => ?_) (fun c_17 => ?_)
      · -- jump at 17
        refine lv_iinc (v := nI (i + 1)) (lv' := [(2, .int (nI (i + 1))), (0, .ref (q (11 + w))), (1, .int x)]) hx hb dX1_has_22 hl (k := 0) rfl (nI_1 i) (by decide) rfl (fun ls hl => ?_)
        refine lv_goto (tgt := 2) hx hb dX1_has_25 (by decide) ?_
        have hP : va_P D vwCl (wL g q n a b v) _ := hP
        have hD : va_D A (wL g q n a b v) := hD
        have hl : lv_has ls 3 [(2, .int (nI (i + 1))), (0, .ref (q (11 + w))), (1, .int x)] := lv_sub hl [0, 1, 2] rfl
        exact ih_2 (i + 1)  (by omega) (lt_s hne c_17) _ _ _ hP hD hS hl
      · -- on at 17
        refine lv_iconst (v := 1) hx hb dX1_has_20 (by decide) ?_
        exact hret 1 () _ _ _ _ _ _ rfl (by first | exact m_has_t (by omega) c_17 | exact m_has_f hne) hP hD hS (Nat.le_of_ble_eq_true rfl) (Nat.le_of_ble_eq_true rfl) dX1_has_21
  exact lp_2 (c - 0) 0  (by omega) (fun _ h => absurd h (Nat.not_lt_zero _)) _ _ _ hP hD hS (lv_sub hl [0, 1, 2] rfl)
def rm_take : Room := { frames := 1, cells := 0, slots := 0, locals := 22 }
set_option maxHeartbeats 4000000 in
set_option maxRecDepth 100000 in
theorem c_take (l : Launch) (D : va_G) (g : Nat → ClassId) (q : Nat → Nat) (n : Nat) (a : Nat → Nat → Int32) (b : Nat → Nat → Int64) (v : Nat → Nat → Int32) (w : Nat) (hw4 : w < 4) (c : Nat) (hc : a 11 w = nI c) (hc8 : c ≤ 8) (dy x : Int32) : zc_i l D (tyG g) yX1_take cX1_take 3 (some .boolean) rm_take [.ref (q (11 + w)), .int dy, .int x] (wL g q n a b v) (fun (r : Int32) (u : zS) => r = zb (decide (c < 8) && decide (a 12 w < dy) && !(m_has (v w) x c)) ∧ u = if (decide (c < 8) && decide (a 12 w < dy) && !(m_has (v w) x c)) = true then (va_up (va_up a 11 (upd (a 11) w (nI (c + 1)))) 12 (upd (a 12) w dy), b, va_up v w (upd (v w) c x)) else (a, b, v)) (fun u => wL g q n u.1 u.2.1 u.2.2) 0 0 := by
  refine zi_of (by decide) (Nat.le_of_ble_eq_true rfl) rfl ?_
  intro p e s m args below meth cd_ A Q ls C0 hnm hP hD hS hl hret
  obtain ⟨hx, hb, hr, hml, hlocks, hown, hts, hK, hA, hN⟩ := id C0
  have hl : lv_has ls 3 [(0, .ref (q (11 + w))), (1, .int dy), (2, .int x)] := hl
  refine lv_aload_n hx hb dX1_take_0 rfl (lv_at hl 0 rfl) ?_
  refine va_get (D := D) (ci := 1) (v := .int (a 11 w)) (C := RX1) (T := TX1) (N := 3) hx hb hts iw_X1 hown hK hP (11 + w) (wL_w w hw4) rfl 1 (by decide) (hts _ kf_X1_19) (fun _ h9 => h9) rfl dX1_take_1 ?_
  rw [hc]
  refine lv_bipush (v := 8) hx hb dX1_take_4 (by decide) ?_
  refine lv_icmp_ge (tgt := 25) hx hb dX1_take_6 (by decide) (fun c_6 => ?_) (fun c_6 => ?_)
  · -- jump at 6
    have hc1 : ¬ c < 8 := fun h => absurd c_6 (nI_ge (a := c) (b := 8) h (by decide))
    refine lv_iconst (v := 0) hx hb dX1_take_25 (by decide) ?_
    exact hret 0 (a, b, v) _ _ _ _ _ _ rfl (by simp [zb, hc1]) hP hD hS (Nat.le_of_ble_eq_true rfl) (Nat.le_of_ble_eq_true rfl) dX1_take_26
  · -- on at 6
    have hc1 : c < 8 := by rcases Nat.lt_or_ge c 8 with h | h; exact h; exact absurd (nI_le (a := 8) h (by omega)) c_6
    refine lv_iload_n hx hb dX1_take_9 rfl (lv_at hl 1 rfl) ?_
    refine lv_aload_n hx hb dX1_take_10 rfl (lv_at hl 0 rfl) ?_
    refine va_get (D := D) (ci := 1) (v := .int (a 12 w)) (C := RX1) (T := TX1) (N := 3) hx hb hts iw_X1 hown hK hP (11 + w) (wL_w w hw4) rfl 2 (by decide) (hts _ kf_X1_15) (fun _ h9 => h9) rfl dX1_take_11 ?_
    refine lv_icmp_le (tgt := 25) hx hb dX1_take_14 (by decide) (fun c_14 => ?_) (fun c_14 => ?_)
    · -- jump at 14
      have hc2 : ¬ a 12 w < dy := by rw [Int32.lt_iff_toInt_lt]; rw [Int32.le_iff_toInt_le] at c_14; omega
      refine lv_iconst (v := 0) hx hb dX1_take_25 (by decide) ?_
      exact hret 0 (a, b, v) _ _ _ _ _ _ rfl (by simp [zb, hc1, hc2]) hP hD hS (Nat.le_of_ble_eq_true rfl) (Nat.le_of_ble_eq_true rfl) dX1_take_26
    · -- on at 14
      have hc2 : a 12 w < dy := by rw [Int32.lt_iff_toInt_lt]; rw [Int32.le_iff_toInt_le] at c_14; omega
      refine lv_aload_n hx hb dX1_take_17 rfl (lv_at hl 0 rfl) ?_
      refine lv_iload_n hx hb dX1_take_18 rfl (lv_at hl 2 rfl) ?_
      refine zf_vi (rest := []) C0 hP hD hS (c_has l D g q n a b v w hw4 c hc hc8 x) kk_X1_22 kv_X1_22 1 rfl (11 + w) (wL_w w hw4) hl.1 rfl rfl (Nat.le_of_ble_eq_true rfl) ⟨(Nat.le_of_ble_eq_true rfl), (Nat.le_of_ble_eq_true rfl)⟩ rfl rfl ⟨(Nat.le_of_ble_eq_true rfl), (Nat.le_of_ble_eq_true rfl)⟩ dX1_take_19 (fun r_19 u_19 H locs hw_19 hP hD hS => ?_)
      obtain rfl := hw_19
      refine lv_if_eq (tgt := 27) hx hb dX1_take_22 (by decide) (fun c_22 => ?_) (fun c_22 => ?_)
      · -- jump at 22
        have c_22 := zb_f c_22
        refine lv_aload_n hx hb dX1_take_27 rfl (lv_at hl 0 rfl) ?_
        refine va_get (D := D) (ci := 1) (v := .ref (q (15 + w))) (C := RX1) (T := TX1) (N := 3) hx hb hts iw_X1 hown hK hP (11 + w) (wL_w w hw4) rfl 0 (by decide) (hts _ kf_X1_9) (fun _ h9 => h9) rfl dX1_take_28 ?_
        refine lv_aload_n hx hb dX1_take_31 rfl (lv_at hl 0 rfl) ?_
        refine va_get (D := D) (ci := 1) (v := .int (a 11 w)) (C := RX1) (T := TX1) (N := 3) hx hb hts iw_X1 hown hK hP (11 + w) (wL_w w hw4) rfl 1 (by decide) (hts _ kf_X1_19) (fun _ h9 => h9) rfl dX1_take_32 ?_
        rw [hc]
        refine lv_iload_n hx hb dX1_take_35 rfl (lv_at hl 2 rfl) ?_
        refine za_iast (k := c) (x := x) (f := (v w)) hx hb hK hP hD hS (15 + w) 0 (wL_v w hw4) rfl rfl (by omega) (by decide) dX1_take_36 (fun H locs hP hD hS => ?_)
        have hP : va_P D vwCl (wL g q n a b (va_up v w (upd (v w) c x))) H := Eq.mp (congrArg (fun w9 => va_P D vwCl w9 H) (wL_val g q n a b v w (upd (v w) c x) hw4)) hP
        have hD : va_D A (wL g q n a b (va_up v w (upd (v w) c x))) := Eq.mp (congrArg (fun w9 => va_D A w9) (wL_val g q n a b v w (upd (v w) c x) hw4)) hD
        refine lv_aload_n hx hb dX1_take_37 rfl (lv_at hl 0 rfl) ?_
        refine lv_dup hx hb dX1_take_38 rfl ?_
        refine va_get (D := D) (ci := 1) (v := .int (a 11 w)) (C := RX1) (T := TX1) (N := 3) hx hb hts iw_X1 hown hK hP (11 + w) (wL_w w hw4) rfl 1 (by decide) (hts _ kf_X1_19) (fun _ h9 => h9) rfl dX1_take_39 ?_
        rw [hc]
        refine lv_iconst (v := 1) hx hb dX1_take_42 (by decide) ?_
        refine lv_iadd hx hb dX1_take_43 ?_
        rw [show (nI c) + 1 = nI (c + 1) from nI_1 c]
        refine va_put (D := D) (ci := 1) (v := .int (nI (c + 1))) (ty := .int) (C := RX1) (T := TX1) (N := 3) hx hb hts iw_X1 tyX1 tyok_X1 nm_X1 hown hK hP hD hS (11 + w) (wL_w w hw4) rfl 1 (by decide) (hts _ kf_X1_19) (fun _ h9 => h9) rfl (by decide +kernel) rfl rfl (Nat.le_of_ble_eq_true rfl) dX1_take_44 (fun H locs hP hD hS => ?_)
        have hP : va_P D vwCl (wL g q n (va_up a 11 (upd (a 11) w (nI (c + 1)))) b (va_up v w (upd (v w) c x))) H := Eq.mp (congrArg (fun w9 => va_P D vwCl w9 H) (wL_cnt g q n a b (va_up v w (upd (v w) c x)) w (nI (c + 1)) hw4)) hP
        have hD : va_D A (wL g q n (va_up a 11 (upd (a 11) w (nI (c + 1)))) b (va_up v w (upd (v w) c x))) := Eq.mp (congrArg (fun w9 => va_D A w9) (wL_cnt g q n a b (va_up v w (upd (v w) c x)) w (nI (c + 1)) hw4)) hD
        refine lv_aload_n hx hb dX1_take_47 rfl (lv_at hl 0 rfl) ?_
        refine lv_iload_n hx hb dX1_take_48 rfl (lv_at hl 1 rfl) ?_
        refine va_put (D := D) (ci := 1) (v := .int dy) (ty := .int) (C := RX1) (T := TX1) (N := 3) hx hb hts iw_X1 tyX1 tyok_X1 nm_X1 hown hK hP hD hS (11 + w) (wL_w w hw4) rfl 2 (by decide) (hts _ kf_X1_15) (fun _ h9 => h9) rfl (by decide +kernel) rfl rfl (Nat.le_of_ble_eq_true rfl) dX1_take_49 (fun H locs hP hD hS => ?_)
        have hP : va_P D vwCl (wL g q n (va_up (va_up a 11 (upd (a 11) w (nI (c + 1)))) 12 (upd (a 12) w dy)) b (va_up v w (upd (v w) c x))) H := Eq.mp (congrArg (fun w9 => va_P D vwCl w9 H) (wL_lst g q n (va_up a 11 (upd (a 11) w (nI (c + 1)))) b (va_up v w (upd (v w) c x)) w dy hw4)) hP
        have hD : va_D A (wL g q n (va_up (va_up a 11 (upd (a 11) w (nI (c + 1)))) 12 (upd (a 12) w dy)) b (va_up v w (upd (v w) c x))) := Eq.mp (congrArg (fun w9 => va_D A w9) (wL_lst g q n (va_up a 11 (upd (a 11) w (nI (c + 1)))) b (va_up v w (upd (v w) c x)) w dy hw4)) hD
        refine lv_iconst (v := 1) hx hb dX1_take_52 (by decide) ?_
        exact hret 1 (va_up (va_up a 11 (upd (a 11) w (nI (c + 1)))) 12 (upd (a 12) w dy), b, va_up v w (upd (v w) c x)) _ _ _ _ _ _ rfl (by simp [zb, hc1, hc2, c_22]) hP hD hS (Nat.le_of_ble_eq_true rfl) (Nat.le_of_ble_eq_true rfl) dX1_take_53
      · -- on at 22
        have c_22 := zb_t c_22
        refine lv_iconst (v := 0) hx hb dX1_take_25 (by decide) ?_
        exact hret 0 (a, b, v) _ _ _ _ _ _ rfl (by simp [zb, hc1, hc2, c_22]) hP hD hS (Nat.le_of_ble_eq_true rfl) (Nat.le_of_ble_eq_true rfl) dX1_take_26
def rm_risesLessFalls : Room := { frames := 1, cells := 0, slots := 0, locals := 21 }
set_option maxHeartbeats 4000000 in
set_option maxRecDepth 100000 in
theorem c_risesLessFalls (l : Launch) (D : va_G) (g : Nat → ClassId) (q : Nat → Nat) (n : Nat) (a : Nat → Nat → Int32) (b : Nat → Nat → Int64) (v : Nat → Nat → Int32) (w : Nat) (hw4 : w < 4) (c : Nat) (hc : a 11 w = nI c) (hc8 : c ≤ 8) : zc_i l D (tyG g) yX1_risesLessFalls cX1_risesLessFalls 4 (some .int) rm_risesLessFalls [.ref (q (11 + w))] (wL g q n a b v) (fun (r : Int32) (u : Unit) => r = m_ro (v w) (c - 1)) (fun _ => wL g q n a b v) 0 0 := by
  refine zi_of (by decide) (Nat.le_of_ble_eq_true rfl) rfl ?_
  intro p e s m args below meth cd_ A Q ls C0 hnm hP hD hS hl hret
  obtain ⟨hx, hb, hr, hml, hlocks, hown, hts, hK, hA, hN⟩ := id C0
  have hl : lv_has ls 4 [(0, .ref (q (11 + w)))] := hl
  refine lv_iconst (v := 0) hx hb dX1_risesLessFalls_0 (by decide) ?_
  refine lv_istore_n (lv' := [(1, .int 0), (0, .ref (q (11 + w)))]) hx hb dX1_risesLessFalls_1 rfl hl (by decide) rfl (fun ls hl => ?_)
  refine lv_iconst (v := 1) hx hb dX1_risesLessFalls_2 (by decide) ?_
  refine lv_istore_n (lv' := [(2, .int 1), (1, .int 0), (0, .ref (q (11 + w)))]) hx hb dX1_risesLessFalls_3 rfl hl (by decide) rfl (fun ls hl => ?_)
  have lp_4 : ∀ (t_4 j : Nat) , j + t_4 = (c - 1) → ∀ (H : Heap) (locs : List Loc) (ls : Array Slot), va_P D vwCl (wL g q n a b v) H → va_D A (wL g q n a b v) → va_S A s.heap H locs → lv_has ls 4 [(2, .int (nI (1 + j))), (1, .int (m_ro (v w) j)), (0, .ref (q (11 + w)))] → W p l e rm_risesLessFalls s m args below meth cd_ H locs 0 0 Q (F0 m 4 ls []) := by
    intro t_4
    induction t_4 with
    | zero =>
      intro j hi_4 H locs ls hP hD hS hl
      obtain rfl : (c - 1) = j := by omega
      refine lv_iload_n hx hb dX1_risesLessFalls_4 rfl (lv_at hl 0 rfl) ?_
      refine lv_aload_n hx hb dX1_risesLessFalls_5 rfl (lv_at hl 2 rfl) ?_
      refine va_get (D := D) (ci := 1) (v := .int (a 11 w)) (C := RX1) (T := TX1) (N := 3) hx hb hts iw_X1 hown hK hP (11 + w) (wL_w w hw4) rfl 1 (by decide) (hts _ kf_X1_19) (fun _ h9 => h9) rfl dX1_risesLessFalls_6 ?_
      rw [hc]
      refine lv_icmp_ge (tgt := 49) hx hb dX1_risesLessFalls_9 (by decide) (fun _ => ?_) (fun c_9 => absurd (nI_le (by omega) (by omega)) c_9)
      refine lv_iload_n hx hb dX1_risesLessFalls_49 rfl (lv_at hl 1 rfl) ?_
      exact hret (m_ro (v w) (c - 1)) () _ _ _ _ _ _ (vp_nar_int _) rfl hP hD hS (Nat.le_of_ble_eq_true rfl) (Nat.le_of_ble_eq_true rfl) dX1_risesLessFalls_50
    | succ t_4 ih_4 =>
      intro j hi_4 H locs ls hP hD hS hl
      refine lv_iload_n hx hb dX1_risesLessFalls_4 rfl (lv_at hl 0 rfl) ?_
      refine lv_aload_n hx hb dX1_risesLessFalls_5 rfl (lv_at hl 2 rfl) ?_
      refine va_get (D := D) (ci := 1) (v := .int (a 11 w)) (C := RX1) (T := TX1) (N := 3) hx hb hts iw_X1 hown hK hP (11 + w) (wL_w w hw4) rfl 1 (by decide) (hts _ kf_X1_19) (fun _ h9 => h9) rfl dX1_risesLessFalls_6 ?_
      rw [hc]
      refine lv_icmp_ge (tgt := 49) hx hb dX1_risesLessFalls_9 (by decide) (fun c_9 => absurd c_9 (nI_ge (by omega) (by omega))) (fun _ => ?_)
      refine lv_iconst (v := 0) hx hb dX1_risesLessFalls_12 (by decide) ?_
      refine lv_istore_n (lv' := [(3, .int 0), (2, .int (nI (1 + j))), (1, .int (m_ro (v w) j)), (0, .ref (q (11 + w)))]) hx hb dX1_risesLessFalls_13 rfl hl (by decide) rfl (fun ls hl => ?_)
      have lp_14 : ∀ (t_14 i : Nat) , i + t_14 = (1 + j) → ∀ (H : Heap) (locs : List Loc) (ls : Array Slot), va_P D vwCl (wL g q n a b v) H → va_D A (wL g q n a b v) → va_S A s.heap H locs → lv_has ls 4 [(3, .int (nI i)), (1, .int (m_ri (v w) (1 + j) (m_ro (v w) j) i)), (0, .ref (q (11 + w))), (2, .int (nI (1 + j)))] → W p l e rm_risesLessFalls s m args below meth cd_ H locs 0 0 Q (F0 m 14 ls []) := by
        intro t_14
        induction t_14 with
        | zero =>
          intro i hi_14 H locs ls hP hD hS hl
          obtain rfl : (1 + j) = i := by omega
          refine lv_iload_n hx hb dX1_risesLessFalls_14 rfl (lv_at hl 0 rfl) ?_
          refine lv_iload_n hx hb dX1_risesLessFalls_15 rfl (lv_at hl 3 rfl) ?_
          refine lv_icmp_ge (tgt := 43) hx hb dX1_risesLessFalls_16 (by decide) (fun _ => ?_) (fun c_16 => absurd (nI_le (Nat.le_refl _) (by omega)) c_16)
          refine lv_iinc (v := nI ((1 + j) + 1)) (lv' := [(2, .int (nI ((1 + j) + 1))), (3, .int (nI (1 + j))), (1, .int (m_ri (v w) (1 + j) (m_ro (v w) j) (1 + j))), (0, .ref (q (11 + w)))]) hx hb dX1_risesLessFalls_43 hl (k := 3) rfl (nI_1 (1 + j)) (by decide) rfl (fun ls hl => ?_)
          refine lv_goto (tgt := 4) hx hb dX1_risesLessFalls_46 (by decide) ?_
          have hP : va_P D vwCl (wL g q n a b v) _ := hP
          have hD : va_D A (wL g q n a b v) := hD
          have hl : lv_has ls 4 [(2, .int (nI (1 + (j + 1)))), (1, .int (m_ro (v w) (j + 1))), (0, .ref (q (11 + w)))] := lv_sub hl [0, 2, 3] rfl
          exact ih_4 (j + 1)  (by omega)  _ _ _ hP hD hS hl
        | succ t_14 ih_14 =>
          intro i hi_14 H locs ls hP hD hS hl
          refine lv_iload_n hx hb dX1_risesLessFalls_14 rfl (lv_at hl 0 rfl) ?_
          refine lv_iload_n hx hb dX1_risesLessFalls_15 rfl (lv_at hl 3 rfl) ?_
          refine lv_icmp_ge (tgt := 43) hx hb dX1_risesLessFalls_16 (by decide) (fun c_16 => absurd c_16 (nI_ge (by omega) (by omega))) (fun _ => ?_)
          refine lv_iload_n hx hb dX1_risesLessFalls_19 rfl (lv_at hl 1 rfl) ?_
          refine lv_aload_n hx hb dX1_risesLessFalls_20 rfl (lv_at hl 2 rfl) ?_
          refine va_get (D := D) (ci := 1) (v := .ref (q (15 + w))) (C := RX1) (T := TX1) (N := 3) hx hb hts iw_X1 hown hK hP (11 + w) (wL_w w hw4) rfl 0 (by decide) (hts _ kf_X1_9) (fun _ h9 => h9) rfl dX1_risesLessFalls_21 ?_
          refine lv_iload_n hx hb dX1_risesLessFalls_24 rfl (lv_at hl 3 rfl) ?_
          refine za_iald (k := (1 + j)) (f := (v w)) (v := v w (1 + j)) hx hb hK hP (15 + w) 0 (wL_v w hw4) rfl rfl (by omega) (by decide) rfl dX1_risesLessFalls_25 ?_
          refine lv_aload_n hx hb dX1_risesLessFalls_26 rfl (lv_at hl 2 rfl) ?_
          refine va_get (D := D) (ci := 1) (v := .ref (q (15 + w))) (C := RX1) (T := TX1) (N := 3) hx hb hts iw_X1 hown hK hP (11 + w) (wL_w w hw4) rfl 0 (by decide) (hts _ kf_X1_9) (fun _ h9 => h9) rfl dX1_risesLessFalls_27 ?_
          refine lv_iload_n hx hb dX1_risesLessFalls_30 rfl (lv_at hl 0 rfl) ?_
          refine za_iald (k := i) (f := (v w)) (v := v w i) hx hb hK hP (15 + w) 0 (wL_v w hw4) rfl rfl (by omega) (by decide) rfl dX1_risesLessFalls_31 ?_
          refine zk_pi (rest := [.int (m_ri (v w) (1 + j) (m_ro (v w) j) i)]) C0 hP hD hS (c_compare l D (tyG g) (v w (1 + j)) (v w i)) kk_X1_26 hl.1 rfl rfl (Nat.le_of_ble_eq_true rfl) ⟨(Nat.le_of_ble_eq_true rfl), (Nat.le_of_ble_eq_true rfl)⟩ rfl rfl ⟨(Nat.le_of_ble_eq_true rfl), (Nat.le_of_ble_eq_true rfl)⟩ dX1_risesLessFalls_32 (fun r_32 H locs hw_32 hP hS => ?_)
          obtain rfl := hw_32
          refine lv_iadd hx hb dX1_risesLessFalls_35 ?_
          refine lv_istore_n (lv' := [(1, .int ((m_ri (v w) (1 + j) (m_ro (v w) j) i) + (m_cmp (v w (1 + j)) (v w i)))), (3, .int (nI i)), (0, .ref (q (11 + w))), (2, .int (nI (1 + j)))]) hx hb dX1_risesLessFalls_36 rfl hl (by decide) rfl (fun ls hl => ?_)
          refine lv_iinc (v := nI (i + 1)) (lv' := [(3, .int (nI (i + 1))), (1, .int ((m_ri (v w) (1 + j) (m_ro (v w) j) i) + (m_cmp (v w (1 + j)) (v w i)))), (0, .ref (q (11 + w))), (2, .int (nI (1 + j)))]) hx hb dX1_risesLessFalls_37 hl (k := 1) rfl (nI_1 i) (by decide) rfl (fun ls hl => ?_)
          refine lv_goto (tgt := 14) hx hb dX1_risesLessFalls_40 (by decide) ?_
          have hP : va_P D vwCl (wL g q n a b v) _ := hP
          have hD : va_D A (wL g q n a b v) := hD
          have hl : lv_has ls 4 [(3, .int (nI (i + 1))), (1, .int (m_ri (v w) (1 + j) (m_ro (v w) j) (i + 1))), (0, .ref (q (11 + w))), (2, .int (nI (1 + j)))] := lv_sub hl [0, 1, 2, 3] rfl
          exact ih_14 (i + 1)  (by omega)  _ _ _ hP hD hS hl
      exact lp_14 ((1 + j) - 0) 0  (by omega)  _ _ _ hP hD hS (lv_sub hl [0, 2, 3, 1] rfl)
  exact lp_4 ((c - 1) - 0) 0  (by omega)  _ _ _ hP hD hS (lv_sub hl [0, 1, 2] rfl)
def rm_ordersOf : Room := { frames := 0, cells := 0, slots := 0, locals := 0 }
set_option maxHeartbeats 4000000 in
set_option maxRecDepth 100000 in
theorem c_ordersOf (l : Launch) (D : va_G) (tys : List (ClassId × FieldType)) (c : Nat) (hc8 : c ≤ 8) : zc_i l D tys yX0_ordersOf cX0_ordersOf 3 (some .int) rm_ordersOf [.int (nI c)] ([]) (fun (r : Int32) (u : Unit) => r = m_oo (c - 1)) (fun _ => []) 0 0 := by
  refine zi_of (by decide) (Nat.le_of_ble_eq_true rfl) rfl ?_
  intro p e s m args below meth cd_ A Q ls C0 hnm hP hD hS hl hret
  obtain ⟨hx, hb, hr, hml, hlocks, hown, hts, hK, hA, hN⟩ := id C0
  have hl : lv_has ls 3 [(0, .int (nI c))] := hl
  refine lv_iconst (v := 1) hx hb dX0_ordersOf_0 (by decide) ?_
  refine lv_istore_n (lv' := [(1, .int 1), (0, .int (nI c))]) hx hb dX0_ordersOf_1 rfl hl (by decide) rfl (fun ls hl => ?_)
  refine lv_iconst (v := 2) hx hb dX0_ordersOf_2 (by decide) ?_
  refine lv_istore_n (lv' := [(2, .int 2), (1, .int 1), (0, .int (nI c))]) hx hb dX0_ordersOf_3 rfl hl (by decide) rfl (fun ls hl => ?_)
  have lp_4 : ∀ (t_4 i : Nat) , i + t_4 = (c - 1) → ∀ (H : Heap) (locs : List Loc) (ls : Array Slot), va_P D vwCl ([] : va_W) H → va_D A ([] : va_W) → va_S A s.heap H locs → lv_has ls 3 [(2, .int (nI (2 + i))), (1, .int (m_oo i)), (0, .int (nI c))] → W p l e rm_ordersOf s m args below meth cd_ H locs 0 0 Q (F0 m 4 ls []) := by
    intro t_4
    induction t_4 with
    | zero =>
      intro i hi_4 H locs ls hP hD hS hl
      obtain rfl : (c - 1) = i := by omega
      refine lv_iload_n hx hb dX0_ordersOf_4 rfl (lv_at hl 0 rfl) ?_
      refine lv_iload_n hx hb dX0_ordersOf_5 rfl (lv_at hl 2 rfl) ?_
      refine lv_icmp_gt (tgt := 19) hx hb dX0_ordersOf_6 (by decide) (fun _ => ?_) (fun c_6 => absurd (nI_lt (by omega) (by omega)) c_6)
      refine lv_iload_n hx hb dX0_ordersOf_19 rfl (lv_at hl 1 rfl) ?_
      exact hret (m_oo (c - 1)) () _ _ _ _ _ _ (vp_nar_int _) rfl hP hD hS (Nat.le_of_ble_eq_true rfl) (Nat.le_of_ble_eq_true rfl) dX0_ordersOf_20
    | succ t_4 ih_4 =>
      intro i hi_4 H locs ls hP hD hS hl
      refine lv_iload_n hx hb dX0_ordersOf_4 rfl (lv_at hl 0 rfl) ?_
      refine lv_iload_n hx hb dX0_ordersOf_5 rfl (lv_at hl 2 rfl) ?_
      refine lv_icmp_gt (tgt := 19) hx hb dX0_ordersOf_6 (by decide) (fun c_6 => absurd c_6 (nI_nlt (by omega) (by omega))) (fun _ => ?_)
      refine lv_iload_n hx hb dX0_ordersOf_9 rfl (lv_at hl 1 rfl) ?_
      refine lv_iload_n hx hb dX0_ordersOf_10 rfl (lv_at hl 0 rfl) ?_
      refine lv_imul hx hb dX0_ordersOf_11 ?_
      refine lv_istore_n (lv' := [(1, .int ((m_oo i) * (nI (2 + i)))), (2, .int (nI (2 + i))), (0, .int (nI c))]) hx hb dX0_ordersOf_12 rfl hl (by decide) rfl (fun ls hl => ?_)
      refine lv_iinc (v := nI ((2 + i) + 1)) (lv' := [(2, .int (nI ((2 + i) + 1))), (1, .int ((m_oo i) * (nI (2 + i)))), (0, .int (nI c))]) hx hb dX0_ordersOf_13 hl (k := 1) rfl (nI_1 (2 + i)) (by decide) rfl (fun ls hl => ?_)
      refine lv_goto (tgt := 4) hx hb dX0_ordersOf_16 (by decide) ?_
      have hP : va_P D vwCl ([] : va_W) _ := hP
      have hD : va_D A ([] : va_W) := hD
      have hl : lv_has ls 3 [(2, .int (nI (2 + (i + 1)))), (1, .int (m_oo (i + 1))), (0, .int (nI c))] := lv_sub hl [0, 1, 2] rfl
      exact ih_4 (i + 1)  (by omega)  _ _ _ hP hD hS hl
  exact lp_4 ((c - 1) - 0) 0  (by omega)  _ _ _ hP hD hS (lv_sub hl [0, 1, 2] rfl)
def rm_commonDivisor : Room := { frames := 1, cells := 0, slots := 0, locals := 21 }
set_option maxHeartbeats 4000000 in
set_option maxRecDepth 100000 in
theorem c_commonDivisor (l : Launch) (D : va_G) (tys : List (ClassId × FieldType)) (x0 y0 : Int32) : zc_i l D tys yX0_commonDivisor cX0_commonDivisor 6 (some .int) rm_commonDivisor [.int x0, .int y0] ([]) (fun (r : Int32) (u : Unit) => r = m_gcd 64 x0 y0) (fun _ => []) 0 0 := by
  refine zi_of (by decide) (Nat.le_of_ble_eq_true rfl) rfl ?_
  intro p e s m args below meth cd_ A Q ls C0 hnm hP hD hS hl hret
  obtain ⟨hx, hb, hr, hml, hlocks, hown, hts, hK, hA, hN⟩ := id C0
  have hl : lv_has ls 6 [(0, .int x0), (1, .int y0)] := hl
  refine lv_iload_n hx hb dX0_commonDivisor_0 rfl (lv_at hl 0 rfl) ?_
  refine lv_istore_n (lv' := [(2, .int x0), (0, .int x0), (1, .int y0)]) hx hb dX0_commonDivisor_1 rfl hl (by decide) rfl (fun ls hl => ?_)
  refine lv_iload_n hx hb dX0_commonDivisor_2 rfl (lv_at hl 2 rfl) ?_
  refine lv_istore_n (lv' := [(3, .int y0), (2, .int x0), (0, .int x0), (1, .int y0)]) hx hb dX0_commonDivisor_3 rfl hl (by decide) rfl (fun ls hl => ?_)
  refine lv_iconst (v := 0) hx hb dX0_commonDivisor_4 (by decide) ?_
  refine lv_istore (lv' := [(4, .int 0), (3, .int y0), (2, .int x0), (0, .int x0), (1, .int y0)]) hx hb dX0_commonDivisor_5 hl (by decide) rfl (fun ls hl => ?_)
  have lp_7 : ∀ (t_7 i : Nat) (x : Int32) (y : Int32), i + t_7 = 64 → m_gcd 64 x0 y0 = m_gcd t_7 x y → ∀ (H : Heap) (locs : List Loc) (ls : Array Slot), va_P D vwCl ([] : va_W) H → va_D A ([] : va_W) → va_S A s.heap H locs → lv_has ls 6 [(4, .int (nI i)), (2, .int x), (3, .int y), (0, .int x0), (1, .int y0)] → W p l e rm_commonDivisor s m args below meth cd_ H locs 0 0 Q (F0 m 7 ls []) := by
    intro t_7
    induction t_7 with
    | zero =>
      intro i x y hi_7 heq H locs ls hP hD hS hl
      obtain rfl : 64 = i := by omega
      refine lv_iload hx hb dX0_commonDivisor_7 (lv_at hl 0 rfl) ?_
      refine lv_bipush (v := 64) hx hb dX0_commonDivisor_9 (by decide) ?_
      refine lv_icmp_ge (tgt := 34) hx hb dX0_commonDivisor_11 (by decide) (fun _ => ?_) (fun c_11 => absurd (nI_le (a := 64) (Nat.le_refl _) (by omega)) c_11)
      refine lv_iconst (v := 1) hx hb dX0_commonDivisor_34 (by decide) ?_
      refine lv_iload_n hx hb dX0_commonDivisor_35 rfl (lv_at hl 1 rfl) ?_
      refine va_mmax hx hb (hml.trans hl.1.symm) hown (hts _ kl_X0_192) (hts _ ks_max_int) (hts _ ki_Math) (hts _ kc_max_int) (Nat.le_of_ble_eq_true rfl) (Nat.le_of_ble_eq_true rfl) (Nat.le_of_ble_eq_true rfl) (Nat.le_of_ble_eq_true rfl) dX0_commonDivisor_36 ?_
      exact hret (m_mx1 x) () _ _ _ _ _ _ (vp_nar_int _) (by first | exact (heq.trans (if_pos c_15)).symm | exact heq.symm) hP hD hS (Nat.le_of_ble_eq_true rfl) (Nat.le_of_ble_eq_true rfl) dX0_commonDivisor_39
    | succ t_7 ih_7 =>
      intro i x y hi_7 heq H locs ls hP hD hS hl
      refine lv_iload hx hb dX0_commonDivisor_7 (lv_at hl 0 rfl) ?_
      refine lv_bipush (v := 64) hx hb dX0_commonDivisor_9 (by decide) ?_
      refine lv_icmp_ge (tgt := 34) hx hb dX0_commonDivisor_11 (by decide) (fun c_11 => absurd c_11 (nI_ge (a := i) (b := 64) (by omega) (by omega))) (fun _ => ?_)
      refine lv_iload_n hx hb dX0_commonDivisor_14 rfl (lv_at hl 2 rfl) ?_
      refine lv_if_eq (tgt := 34) hx hb dX0_commonDivisor_15 (by decide) (fun c_15 => ?_) (fun c_15 => ?_)
      · -- jump at 15
        refine lv_iconst (v := 1) hx hb dX0_commonDivisor_34 (by decide) ?_
        refine lv_iload_n hx hb dX0_commonDivisor_35 rfl (lv_at hl 1 rfl) ?_
        refine va_mmax hx hb (hml.trans hl.1.symm) hown (hts _ kl_X0_192) (hts _ ks_max_int) (hts _ ki_Math) (hts _ kc_max_int) (Nat.le_of_ble_eq_true rfl) (Nat.le_of_ble_eq_true rfl) (Nat.le_of_ble_eq_true rfl) (Nat.le_of_ble_eq_true rfl) dX0_commonDivisor_36 ?_
        exact hret (m_mx1 x) () _ _ _ _ _ _ (vp_nar_int _) (by first | exact (heq.trans (if_pos c_15)).symm | exact heq.symm) hP hD hS (Nat.le_of_ble_eq_true rfl) (Nat.le_of_ble_eq_true rfl) dX0_commonDivisor_39
      · -- on at 15
        refine lv_iload_n hx hb dX0_commonDivisor_18 rfl (lv_at hl 1 rfl) ?_
        refine lv_iload_n hx hb dX0_commonDivisor_19 rfl (lv_at hl 2 rfl) ?_
        refine lv_irem hx hb dX0_commonDivisor_20 c_15 ?_
        refine lv_istore (lv' := [(5, .int (x - x / y * y)), (4, .int (nI i)), (2, .int x), (3, .int y), (0, .int x0), (1, .int y0)]) hx hb dX0_commonDivisor_21 hl (by decide) rfl (fun ls hl => ?_)
        refine lv_iload_n hx hb dX0_commonDivisor_23 rfl (lv_at hl 3 rfl) ?_
        refine lv_istore_n (lv' := [(2, .int y), (5, .int (x - x / y * y)), (4, .int (nI i)), (3, .int y), (0, .int x0), (1, .int y0)]) hx hb dX0_commonDivisor_24 rfl hl (by decide) rfl (fun ls hl => ?_)
        refine lv_iload hx hb dX0_commonDivisor_25 (lv_at hl 1 rfl) ?_
        refine lv_istore_n (lv' := [(3, .int (x - x / y * y)), (2, .int y), (5, .int (x - x / y * y)), (4, .int (nI i)), (0, .int x0), (1, .int y0)]) hx hb dX0_commonDivisor_27 rfl hl (by decide) rfl (fun ls hl => ?_)
        refine lv_iinc (v := nI (i + 1)) (lv' := [(4, .int (nI (i + 1))), (3, .int (x - x / y * y)), (2, .int y), (5, .int (x - x / y * y)), (0, .int x0), (1, .int y0)]) hx hb dX0_commonDivisor_28 hl (k := 3) rfl (nI_1 i) (by decide) rfl (fun ls hl => ?_)
        refine lv_goto (tgt := 7) hx hb dX0_commonDivisor_31 (by decide) ?_
        have hP : va_P D vwCl ([] : va_W) _ := hP
        have hD : va_D A ([] : va_W) := hD
        have hl : lv_has ls 6 [(4, .int (nI (i + 1))), (2, .int y), (3, .int (x - x / y * y)), (0, .int x0), (1, .int y0)] := lv_sub hl [0, 2, 1, 4, 5] rfl
        exact ih_7 (i + 1) y (x - x / y * y) (by omega) (heq.trans (if_neg c_15)) _ _ _ hP hD hS hl
  exact lp_7 (64 - 0) 0 x0 y0 (by omega) rfl _ _ _ hP hD hS (lv_sub hl [0, 2, 1, 3, 4] rfl)
def rm_addValueToOrders : Room := { frames := 0, cells := 0, slots := 0, locals := 0 }
set_option maxHeartbeats 4000000 in
set_option maxRecDepth 100000 in
theorem c_addValueToOrders (l : Launch) (D : va_G) (g : Nat → ClassId) (q : Nat → Nat) (n : Nat) (a : Nat → Nat → Int32) (b : Nat → Nat → Int64) (v : Nat → Nat → Int32) (z : Nat) (hz : 2 ≤ z ∧ z ≤ 8) : zc_v l D (tyG g) yX0_addValueToOrders cX0_addValueToOrders 3 none rm_addValueToOrders [.ref (q 0), .int (nI z)] (wL g q n a b v) (fun (u : (Nat → Int32)) => u = m_av z (a 10)) (fun u => wL g q n (va_up a 10 u) b v) 0 0 := by
  refine zv_of (by decide) (Nat.le_of_ble_eq_true rfl) rfl ?_
  intro p e s m args below meth cd_ A Q ls C0 hnm hP hD hS hl hret
  obtain ⟨hx, hb, hr, hml, hlocks, hown, hts, hK, hA, hN⟩ := id C0
  have hl : lv_has ls 3 [(0, .ref (q 0)), (1, .int (nI z))] := hl
  refine lv_iconst (v := 1) hx hb dX0_addValueToOrders_0 (by decide) ?_
  refine lv_istore_n (lv' := [(2, .int 1), (0, .ref (q 0)), (1, .int (nI z))]) hx hb dX0_addValueToOrders_1 rfl hl (by decide) rfl (fun ls hl => ?_)
  have lp_2 : ∀ (t_2 i : Nat) , i + t_2 = 28 → ∀ (H : Heap) (locs : List Loc) (ls : Array Slot), va_P D vwCl (wL g q n (va_up a 10 (m_av1 (a 10) i)) b v) H → va_D A (wL g q n (va_up a 10 (m_av1 (a 10) i)) b v) → va_S A s.heap H locs → lv_has ls 3 [(2, .int (nI (1 + i))), (0, .ref (q 0)), (1, .int (nI z))] → W p l e rm_addValueToOrders s m args below meth cd_ H locs 0 0 Q (F0 m 2 ls []) := by
    intro t_2
    induction t_2 with
    | zero =>
      intro i hi_2 H locs ls hP hD hS hl
      obtain rfl : 28 = i := by omega
      refine lv_iload_n hx hb dX0_addValueToOrders_2 rfl (lv_at hl 0 rfl) ?_
      refine lv_aload_n hx hb dX0_addValueToOrders_3 rfl (lv_at hl 1 rfl) ?_
      refine va_get (D := D) (ci := 0) (v := .ref (q 10)) (C := RX0) (T := TX0) (N := 18) hx hb hts iw_X0 hown hK hP 0 rfl rfl 9 (by decide) (hts _ kf_X0_32) (fun _ h9 => h9) rfl dX0_addValueToOrders_4 ?_
      refine va_alen (v := 29) hx hb hK hP 10 0 rfl rfl rfl dX0_addValueToOrders_7 ?_
      refine lv_icmp_ge (tgt := 34) hx hb dX0_addValueToOrders_8 (by decide) (fun _ => ?_) (fun c_8 => absurd (nI_le (a := 29) (by omega) (by omega)) c_8)
      refine lv_aload_n hx hb dX0_addValueToOrders_34 rfl (lv_at hl 1 rfl) ?_
      refine va_get (D := D) (ci := 0) (v := .ref (q 10)) (C := RX0) (T := TX0) (N := 18) hx hb hts iw_X0 hown hK hP 0 rfl rfl 9 (by decide) (hts _ kf_X0_32) (fun _ h9 => h9) rfl dX0_addValueToOrders_35 ?_
      refine va_alen (v := 29) hx hb hK hP 10 0 rfl rfl rfl dX0_addValueToOrders_38 ?_
      refine lv_iconst (v := 1) hx hb dX0_addValueToOrders_39 (by decide) ?_
      refine lv_isub hx hb dX0_addValueToOrders_40 ?_
      rw [show 29 - 1 = nI 28 from (by decide)]
      refine lv_istore_n (lv' := [(2, .int (nI 28)), (0, .ref (q 0)), (1, .int (nI z))]) hx hb dX0_addValueToOrders_41 rfl hl (by decide) rfl (fun ls hl => ?_)
      have lp_42 : ∀ (t_42 i : Nat) , i + t_42 = (29 - z) → ∀ (H : Heap) (locs : List Loc) (ls : Array Slot), va_P D vwCl (wL g q n (va_up a 10 (m_av2 z (m_av1 (a 10) 28) i)) b v) H → va_D A (wL g q n (va_up a 10 (m_av2 z (m_av1 (a 10) 28) i)) b v) → va_S A s.heap H locs → lv_has ls 3 [(2, .int (nI (28 - i))), (0, .ref (q 0)), (1, .int (nI z))] → W p l e rm_addValueToOrders s m args below meth cd_ H locs 0 0 Q (F0 m 42 ls []) := by
        intro t_42
        induction t_42 with
        | zero =>
          intro i hi_42 H locs ls hP hD hS hl
          obtain rfl : (29 - z) = i := by omega
          refine lv_iload_n hx hb dX0_addValueToOrders_42 rfl (lv_at hl 0 rfl) ?_
          refine lv_iload_n hx hb dX0_addValueToOrders_43 rfl (lv_at hl 2 rfl) ?_
          refine lv_icmp_lt (tgt := 70) hx hb dX0_addValueToOrders_44 (by decide) (fun _ => ?_) (fun c_44 => absurd (nI_lt (by omega) (by omega)) c_44)
          exact hret (m_av2 z (m_av1 (a 10) 28) (29 - z)) _ _ _ _ _ _ rfl hP hD hS (Nat.le_of_ble_eq_true rfl) (Nat.le_of_ble_eq_true rfl) dX0_addValueToOrders_70
        | succ t_42 ih_42 =>
          intro i hi_42 H locs ls hP hD hS hl
          refine lv_iload_n hx hb dX0_addValueToOrders_42 rfl (lv_at hl 0 rfl) ?_
          refine lv_iload_n hx hb dX0_addValueToOrders_43 rfl (lv_at hl 2 rfl) ?_
          refine lv_icmp_lt (tgt := 70) hx hb dX0_addValueToOrders_44 (by decide) (fun c_44 => absurd c_44 (nI_nlt (by omega) (by omega))) (fun _ => ?_)
          refine lv_aload_n hx hb dX0_addValueToOrders_47 rfl (lv_at hl 1 rfl) ?_
          refine va_get (D := D) (ci := 0) (v := .ref (q 10)) (C := RX0) (T := TX0) (N := 18) hx hb hts iw_X0 hown hK hP 0 rfl rfl 9 (by decide) (hts _ kf_X0_32) (fun _ h9 => h9) rfl dX0_addValueToOrders_48 ?_
          refine lv_iload_n hx hb dX0_addValueToOrders_51 rfl (lv_at hl 0 rfl) ?_
          refine lv_dup2_11 hx hb dX0_addValueToOrders_52 rfl rfl ?_
          refine za_iald (k := (28 - i)) (f := (m_av2 z (m_av1 (a 10) 28) i)) (v := (m_av2 z (m_av1 (a 10) 28) i) (28 - i)) hx hb hK hP 10 0 rfl rfl rfl (by omega) (by decide) rfl dX0_addValueToOrders_53 ?_
          refine lv_aload_n hx hb dX0_addValueToOrders_54 rfl (lv_at hl 1 rfl) ?_
          refine va_get (D := D) (ci := 0) (v := .ref (q 10)) (C := RX0) (T := TX0) (N := 18) hx hb hts iw_X0 hown hK hP 0 rfl rfl 9 (by decide) (hts _ kf_X0_32) (fun _ h9 => h9) rfl dX0_addValueToOrders_55 ?_
          refine lv_iload_n hx hb dX0_addValueToOrders_58 rfl (lv_at hl 0 rfl) ?_
          refine lv_iload_n hx hb dX0_addValueToOrders_59 rfl (lv_at hl 2 rfl) ?_
          refine lv_isub hx hb dX0_addValueToOrders_60 ?_
          rw [show (nI (28 - i)) - (nI z) = nI (28 - i - z) from (pk_sub (by omega))]
          refine za_iald (k := (28 - i - z)) (f := (m_av2 z (m_av1 (a 10) 28) i)) (v := (m_av2 z (m_av1 (a 10) 28) i) (28 - i - z)) hx hb hK hP 10 0 rfl rfl rfl (by omega) (by decide) rfl dX0_addValueToOrders_61 ?_
          refine lv_isub hx hb dX0_addValueToOrders_62 ?_
          refine za_iast (k := (28 - i)) (x := ((m_av2 z (m_av1 (a 10) 28) i) (28 - i)) - ((m_av2 z (m_av1 (a 10) 28) i) (28 - i - z))) (f := (m_av2 z (m_av1 (a 10) 28) i)) hx hb hK hP hD hS 10 0 rfl rfl rfl (by omega) (by decide) dX0_addValueToOrders_63 (fun H locs hP hD hS => ?_)
          have hP : va_P D vwCl (wL g q n (va_up a 10 (upd (m_av2 z (m_av1 (a 10) 28) i) (28 - i) (((m_av2 z (m_av1 (a 10) 28) i) (28 - i)) - ((m_av2 z (m_av1 (a 10) 28) i) (28 - i - z))))) b v) H := hP
          have hD : va_D A (wL g q n (va_up a 10 (upd (m_av2 z (m_av1 (a 10) 28) i) (28 - i) (((m_av2 z (m_av1 (a 10) 28) i) (28 - i)) - ((m_av2 z (m_av1 (a 10) 28) i) (28 - i - z))))) b v) := hD
          refine lv_iinc (v := nI (28 - (i + 1))) (lv' := [(2, .int (nI (28 - (i + 1)))), (0, .ref (q 0)), (1, .int (nI z))]) hx hb dX0_addValueToOrders_64 hl (k := 0) rfl ((sb_m1 (p := 28 - i) (by omega)).trans (by congr 1)) (by decide) rfl (fun ls hl => ?_)
          refine lv_goto (tgt := 42) hx hb dX0_addValueToOrders_67 (by decide) ?_
          have hP : va_P D vwCl (wL g q n (va_up a 10 (m_av2 z (m_av1 (a 10) 28) (i + 1))) b v) _ := hP
          have hD : va_D A (wL g q n (va_up a 10 (m_av2 z (m_av1 (a 10) 28) (i + 1))) b v) := hD
          have hl : lv_has ls 3 [(2, .int (nI (28 - (i + 1)))), (0, .ref (q 0)), (1, .int (nI z))] := lv_sub hl [0, 1, 2] rfl
          exact ih_42 (i + 1)  (by omega)  _ _ _ hP hD hS hl
      exact lp_42 ((29 - z) - 0) 0  (by omega)  _ _ _ hP hD hS (lv_sub hl [0, 1, 2] rfl)
    | succ t_2 ih_2 =>
      intro i hi_2 H locs ls hP hD hS hl
      refine lv_iload_n hx hb dX0_addValueToOrders_2 rfl (lv_at hl 0 rfl) ?_
      refine lv_aload_n hx hb dX0_addValueToOrders_3 rfl (lv_at hl 1 rfl) ?_
      refine va_get (D := D) (ci := 0) (v := .ref (q 10)) (C := RX0) (T := TX0) (N := 18) hx hb hts iw_X0 hown hK hP 0 rfl rfl 9 (by decide) (hts _ kf_X0_32) (fun _ h9 => h9) rfl dX0_addValueToOrders_4 ?_
      refine va_alen (v := 29) hx hb hK hP 10 0 rfl rfl rfl dX0_addValueToOrders_7 ?_
      refine lv_icmp_ge (tgt := 34) hx hb dX0_addValueToOrders_8 (by decide) (fun c_8 => absurd c_8 (nI_ge (b := 29) (by omega) (by omega))) (fun _ => ?_)
      refine lv_aload_n hx hb dX0_addValueToOrders_11 rfl (lv_at hl 1 rfl) ?_
      refine va_get (D := D) (ci := 0) (v := .ref (q 10)) (C := RX0) (T := TX0) (N := 18) hx hb hts iw_X0 hown hK hP 0 rfl rfl 9 (by decide) (hts _ kf_X0_32) (fun _ h9 => h9) rfl dX0_addValueToOrders_12 ?_
      refine lv_iload_n hx hb dX0_addValueToOrders_15 rfl (lv_at hl 0 rfl) ?_
      refine lv_dup2_11 hx hb dX0_addValueToOrders_16 rfl rfl ?_
      refine za_iald (k := (1 + i)) (f := (m_av1 (a 10) i)) (v := (m_av1 (a 10) i) (1 + i)) hx hb hK hP 10 0 rfl rfl rfl (by omega) (by decide) rfl dX0_addValueToOrders_17 ?_
      refine lv_aload_n hx hb dX0_addValueToOrders_18 rfl (lv_at hl 1 rfl) ?_
      refine va_get (D := D) (ci := 0) (v := .ref (q 10)) (C := RX0) (T := TX0) (N := 18) hx hb hts iw_X0 hown hK hP 0 rfl rfl 9 (by decide) (hts _ kf_X0_32) (fun _ h9 => h9) rfl dX0_addValueToOrders_19 ?_
      refine lv_iload_n hx hb dX0_addValueToOrders_22 rfl (lv_at hl 0 rfl) ?_
      refine lv_iconst (v := 1) hx hb dX0_addValueToOrders_23 (by decide) ?_
      refine lv_isub hx hb dX0_addValueToOrders_24 ?_
      rw [show (nI (1 + i)) - 1 = nI i from (by rw [Nat.add_comm]; exact nI_pred i)]
      refine za_iald (k := i) (f := (m_av1 (a 10) i)) (v := (m_av1 (a 10) i) i) hx hb hK hP 10 0 rfl rfl rfl (by omega) (by decide) rfl dX0_addValueToOrders_25 ?_
      refine lv_iadd hx hb dX0_addValueToOrders_26 ?_
      refine za_iast (k := (1 + i)) (x := ((m_av1 (a 10) i) (1 + i)) + ((m_av1 (a 10) i) i)) (f := (m_av1 (a 10) i)) hx hb hK hP hD hS 10 0 rfl rfl rfl (by omega) (by decide) dX0_addValueToOrders_27 (fun H locs hP hD hS => ?_)
      have hP : va_P D vwCl (wL g q n (va_up a 10 (upd (m_av1 (a 10) i) (1 + i) (((m_av1 (a 10) i) (1 + i)) + ((m_av1 (a 10) i) i)))) b v) H := hP
      have hD : va_D A (wL g q n (va_up a 10 (upd (m_av1 (a 10) i) (1 + i) (((m_av1 (a 10) i) (1 + i)) + ((m_av1 (a 10) i) i)))) b v) := hD
      refine lv_iinc (v := nI ((1 + i) + 1)) (lv' := [(2, .int (nI ((1 + i) + 1))), (0, .ref (q 0)), (1, .int (nI z))]) hx hb dX0_addValueToOrders_28 hl (k := 0) rfl (nI_1 (1 + i)) (by decide) rfl (fun ls hl => ?_)
      refine lv_goto (tgt := 2) hx hb dX0_addValueToOrders_31 (by decide) ?_
      have hP : va_P D vwCl (wL g q n (va_up a 10 (m_av1 (a 10) (i + 1))) b v) _ := hP
      have hD : va_D A (wL g q n (va_up a 10 (m_av1 (a 10) (i + 1))) b v) := hD
      have hl : lv_has ls 3 [(2, .int (nI (1 + (i + 1)))), (0, .ref (q 0)), (1, .int (nI z))] := lv_sub hl [0, 1, 2] rfl
      exact ih_2 (i + 1)  (by omega)  _ _ _ hP hD hS hl
  exact lp_2 (28 - 0) 0  (by omega)  _ _ _ hP hD hS (lv_sub hl [0, 1, 2] rfl)
def rm_countOrdersByFalls : Room := { frames := 1, cells := 0, slots := 0, locals := 23 }
set_option maxHeartbeats 4000000 in
set_option maxRecDepth 100000 in
theorem c_countOrdersByFalls (l : Launch) (D : va_G) (g : Nat → ClassId) (q : Nat → Nat) (n : Nat) (a : Nat → Nat → Int32) (b : Nat → Nat → Int64) (v : Nat → Nat → Int32) (c : Nat) (hc8 : c ≤ 8) : zc_v l D (tyG g) yX0_countOrdersByFalls cX0_countOrdersByFalls 3 none rm_countOrdersByFalls [.ref (q 0), .int (nI c)] (wL g q n a b v) (fun (u : (Nat → Int32)) => u = m_co (a 10) (c - 1)) (fun u => wL g q n (va_up a 10 u) b v) 0 0 := by
  refine zv_of (by decide) (Nat.le_of_ble_eq_true rfl) rfl ?_
  intro p e s m args below meth cd_ A Q ls C0 hnm hP hD hS hl hret
  obtain ⟨hx, hb, hr, hml, hlocks, hown, hts, hK, hA, hN⟩ := id C0
  have hl : lv_has ls 3 [(0, .ref (q 0)), (1, .int (nI c))] := hl
  refine lv_aload_n hx hb dX0_countOrdersByFalls_0 rfl (lv_at hl 0 rfl) ?_
  refine va_get (D := D) (ci := 0) (v := .ref (q 10)) (C := RX0) (T := TX0) (N := 18) hx hb hts iw_X0 hown hK hP 0 rfl rfl 9 (by decide) (hts _ kf_X0_32) (fun _ h9 => h9) rfl dX0_countOrdersByFalls_1 ?_
  refine lv_iconst (v := 0) hx hb dX0_countOrdersByFalls_4 (by decide) ?_
  refine zk_sv (rest := []) (wr := [0, 1, 2, 3, 4, 5, 6, 7, 8, 9, 11, 12, 13, 14, 15, 16, 17, 18].filterMap (fun i => (wL g q n a b v)[i]?)) C0 hP hD hS (c_fill l D (tyG g) 0 (g 0) rfl (q 10) 29 (by decide) (a 10) (0 : Int32)) kk_X0_59 ks_fill [10] [0, 1, 2, 3, 4, 5, 6, 7, 8, 9, 11, 12, 13, 14, 15, 16, 17, 18] rfl rfl ⟨by decide, by decide, by decide⟩ hl.1 rfl rfl (Nat.le_of_ble_eq_true rfl) ⟨(Nat.le_of_ble_eq_true rfl), (Nat.le_of_ble_eq_true rfl)⟩ rfl rfl ⟨(Nat.le_of_ble_eq_true rfl), (Nat.le_of_ble_eq_true rfl)⟩ dX0_countOrdersByFalls_5 (fun u_5 H locs hw_5 hP hD hS => ?_)
  have hP : va_P D vwCl (wL g q n (va_up a 10 (m_fil (0 : Int32) (a 10) 29)) b v) H := hP.sub [0, 1, 2, 3, 4, 5, 6, 7, 8, 9, 18, 10, 11, 12, 13, 14, 15, 16, 17] rfl
  have hD : va_D A (wL g q n (va_up a 10 (m_fil (0 : Int32) (a 10) 29)) b v) := hD.sub [0, 1, 2, 3, 4, 5, 6, 7, 8, 9, 18, 10, 11, 12, 13, 14, 15, 16, 17] (by decide) rfl
  refine lv_aload_n hx hb dX0_countOrdersByFalls_8 rfl (lv_at hl 0 rfl) ?_
  refine va_get (D := D) (ci := 0) (v := .ref (q 10)) (C := RX0) (T := TX0) (N := 18) hx hb hts iw_X0 hown hK hP 0 rfl rfl 9 (by decide) (hts _ kf_X0_32) (fun _ h9 => h9) rfl dX0_countOrdersByFalls_9 ?_
  refine lv_iconst (v := 0) hx hb dX0_countOrdersByFalls_12 (by decide) ?_
  refine lv_iconst (v := 1) hx hb dX0_countOrdersByFalls_13 (by decide) ?_
  refine za_iast (k := 0) (x := 1) (f := (m_fil (0 : Int32) (a 10) 29)) hx hb hK hP hD hS 10 0 rfl rfl rfl (by decide) (by decide) dX0_countOrdersByFalls_14 (fun H locs hP hD hS => ?_)
  have hP : va_P D vwCl (wL g q n (va_up a 10 (upd (m_fil (0 : Int32) (a 10) 29) 0 1)) b v) H := hP
  have hD : va_D A (wL g q n (va_up a 10 (upd (m_fil (0 : Int32) (a 10) 29) 0 1)) b v) := hD
  refine lv_iconst (v := 2) hx hb dX0_countOrdersByFalls_15 (by decide) ?_
  refine lv_istore_n (lv' := [(2, .int 2), (0, .ref (q 0)), (1, .int (nI c))]) hx hb dX0_countOrdersByFalls_16 rfl hl (by decide) rfl (fun ls hl => ?_)
  have lp_17 : ∀ (t_17 i : Nat) , i + t_17 = (c - 1) → ∀ (H : Heap) (locs : List Loc) (ls : Array Slot), va_P D vwCl (wL g q n (va_up a 10 (m_co (a 10) i)) b v) H → va_D A (wL g q n (va_up a 10 (m_co (a 10) i)) b v) → va_S A s.heap H locs → lv_has ls 3 [(2, .int (nI (2 + i))), (0, .ref (q 0)), (1, .int (nI c))] → W p l e rm_countOrdersByFalls s m args below meth cd_ H locs 0 0 Q (F0 m 17 ls []) := by
    intro t_17
    induction t_17 with
    | zero =>
      intro i hi_17 H locs ls hP hD hS hl
      obtain rfl : (c - 1) = i := by omega
      refine lv_iload_n hx hb dX0_countOrdersByFalls_17 rfl (lv_at hl 0 rfl) ?_
      refine lv_iload_n hx hb dX0_countOrdersByFalls_18 rfl (lv_at hl 2 rfl) ?_
      refine lv_icmp_gt (tgt := 33) hx hb dX0_countOrdersByFalls_19 (by decide) (fun _ => ?_) (fun c_19 => absurd (nI_lt (by omega) (by omega)) c_19)
      exact hret (m_co (a 10) (c - 1)) _ _ _ _ _ _ rfl hP hD hS (Nat.le_of_ble_eq_true rfl) (Nat.le_of_ble_eq_true rfl) dX0_countOrdersByFalls_33
    | succ t_17 ih_17 =>
      intro i hi_17 H locs ls hP hD hS hl
      refine lv_iload_n hx hb dX0_countOrdersByFalls_17 rfl (lv_at hl 0 rfl) ?_
      refine lv_iload_n hx hb dX0_countOrdersByFalls_18 rfl (lv_at hl 2 rfl) ?_
      refine lv_icmp_gt (tgt := 33) hx hb dX0_countOrdersByFalls_19 (by decide) (fun c_19 => absurd c_19 (nI_nlt (by omega) (by omega))) (fun _ => ?_)
      refine lv_aload_n hx hb dX0_countOrdersByFalls_22 rfl (lv_at hl 1 rfl) ?_
      refine lv_iload_n hx hb dX0_countOrdersByFalls_23 rfl (lv_at hl 0 rfl) ?_
      refine zf_vv (rest := []) C0 hP hD hS (c_addValueToOrders l D g q n (va_up a 10 (m_co (a 10) i)) b v (2 + i) (by omega)) kk_X0_189 kv_X0_189 0 rfl 0 rfl hl.1 rfl rfl (Nat.le_of_ble_eq_true rfl) ⟨(Nat.le_of_ble_eq_true rfl), (Nat.le_of_ble_eq_true rfl)⟩ rfl rfl ⟨(Nat.le_of_ble_eq_true rfl), (Nat.le_of_ble_eq_true rfl)⟩ dX0_countOrdersByFalls_24 (fun u_24 H locs hw_24 hP hD hS => ?_)
      obtain rfl := hw_24
      have hP : va_P D vwCl (wL g q n (va_up a 10 (m_co (a 10) (i + 1))) b v) H := hP
      have hD : va_D A (wL g q n (va_up a 10 (m_co (a 10) (i + 1))) b v) := hD
      refine lv_iinc (v := nI ((2 + i) + 1)) (lv' := [(2, .int (nI ((2 + i) + 1))), (0, .ref (q 0)), (1, .int (nI c))]) hx hb dX0_countOrdersByFalls_27 hl (k := 0) rfl (nI_1 (2 + i)) (by decide) rfl (fun ls hl => ?_)
      refine lv_goto (tgt := 17) hx hb dX0_countOrdersByFalls_30 (by decide) ?_
      have hP : va_P D vwCl (wL g q n (va_up a 10 (m_co (a 10) (i + 1))) b v) _ := hP
      have hD : va_D A (wL g q n (va_up a 10 (m_co (a 10) (i + 1))) b v) := hD
      have hl : lv_has ls 3 [(2, .int (nI (2 + (i + 1)))), (0, .ref (q 0)), (1, .int (nI c))] := lv_sub hl [0, 1, 2] rfl
      exact ih_17 (i + 1)  (by omega)  _ _ _ hP hD hS hl
  exact lp_17 ((c - 1) - 0) 0  (by omega)  _ _ _ hP hD hS (lv_sub hl [0, 1, 2] rfl)
def rm_ordersAsFar : Room := { frames := 2, cells := 0, slots := 0, locals := 45 }
set_option maxHeartbeats 4000000 in
set_option maxRecDepth 100000 in
theorem c_ordersAsFar (l : Launch) (D : va_G) (g : Nat → ClassId) (q : Nat → Nat) (n : Nat) (a : Nat → Nat → Int32) (b : Nat → Nat → Int64) (v : Nat → Nat → Int32) (c : Nat) (hc8 : c ≤ 8) (P : Nat) (hPc : nI c * (nI c - 1) / 2 = nI P) (hP28 : P ≤ 28) (tr : Int32) : zc_i l D (tyG g) yX0_ordersAsFar cX0_ordersAsFar 6 (some .int) rm_ordersAsFar [.ref (q 0), .int (nI c), .int tr] (wL g q n a b v) (fun (r : Int32) (u : (Nat → Int32)) => r = m_far (m_co (a 10) (c - 1)) (nI P) tr (P + 1) ∧ u = m_co (a 10) (c - 1)) (fun u => wL g q n (va_up a 10 u) b v) 0 0 := by
  refine zi_of (by decide) (Nat.le_of_ble_eq_true rfl) rfl ?_
  intro p e s m args below meth cd_ A Q ls C0 hnm hP hD hS hl hret
  obtain ⟨hx, hb, hr, hml, hlocks, hown, hts, hK, hA, hN⟩ := id C0
  have hl : lv_has ls 6 [(0, .ref (q 0)), (1, .int (nI c)), (2, .int tr)] := hl
  refine lv_aload_n hx hb dX0_ordersAsFar_0 rfl (lv_at hl 0 rfl) ?_
  refine lv_iload_n hx hb dX0_ordersAsFar_1 rfl (lv_at hl 1 rfl) ?_
  refine zf_vv (rest := []) C0 hP hD hS (c_countOrdersByFalls l D g q n a b v c hc8) kk_X0_182 kv_X0_182 0 rfl 0 rfl hl.1 rfl rfl (Nat.le_of_ble_eq_true rfl) ⟨(Nat.le_of_ble_eq_true rfl), (Nat.le_of_ble_eq_true rfl)⟩ rfl rfl ⟨(Nat.le_of_ble_eq_true rfl), (Nat.le_of_ble_eq_true rfl)⟩ dX0_ordersAsFar_2 (fun u_2 H locs hw_2 hP hD hS => ?_)
  refine lv_iload_n hx hb dX0_ordersAsFar_5 rfl (lv_at hl 1 rfl) ?_
  refine lv_iload_n hx hb dX0_ordersAsFar_6 rfl (lv_at hl 1 rfl) ?_
  refine lv_iconst (v := 1) hx hb dX0_ordersAsFar_7 (by decide) ?_
  refine lv_isub hx hb dX0_ordersAsFar_8 ?_
  refine lv_imul hx hb dX0_ordersAsFar_9 ?_
  refine lv_iconst (v := 2) hx hb dX0_ordersAsFar_10 (by decide) ?_
  refine lv_idiv hx hb dX0_ordersAsFar_11 (by decide) ?_
  rw [show ((nI c) * ((nI c) - 1)) / 2 = nI P from hPc]
  refine lv_istore_n (lv' := [(3, .int (nI P)), (0, .ref (q 0)), (1, .int (nI c)), (2, .int tr)]) hx hb dX0_ordersAsFar_12 rfl hl (by decide) rfl (fun ls hl => ?_)
  refine lv_iconst (v := 0) hx hb dX0_ordersAsFar_13 (by decide) ?_
  refine lv_istore (lv' := [(4, .int 0), (3, .int (nI P)), (0, .ref (q 0)), (1, .int (nI c)), (2, .int tr)]) hx hb dX0_ordersAsFar_14 hl (by decide) rfl (fun ls hl => ?_)
  refine lv_iconst (v := 0) hx hb dX0_ordersAsFar_16 (by decide) ?_
  refine lv_istore (lv' := [(5, .int 0), (4, .int 0), (3, .int (nI P)), (0, .ref (q 0)), (1, .int (nI c)), (2, .int tr)]) hx hb dX0_ordersAsFar_17 hl (by decide) rfl (fun ls hl => ?_)
  have lp_19 : ∀ (t_19 i : Nat) (z : Int32), i + t_19 = (P + 1) → z = m_far u_2 (nI P) tr i → ∀ (H : Heap) (locs : List Loc) (ls : Array Slot), va_P D vwCl (wL g q n (va_up a 10 u_2) b v) H → va_D A (wL g q n (va_up a 10 u_2) b v) → va_S A s.heap H locs → lv_has ls 6 [(5, .int (nI i)), (4, .int z), (0, .ref (q 0)), (2, .int tr), (3, .int (nI P))] → W p l e rm_ordersAsFar s m args below meth cd_ H locs 0 0 Q (F0 m 19 ls []) := by
    intro t_19
    induction t_19 with
    | zero =>
      intro i z hi_19 hz H locs ls hP hD hS hl
      obtain rfl : (P + 1) = i := by omega
      refine lv_iload hx hb dX0_ordersAsFar_19 (lv_at hl 0 rfl) ?_
      refine lv_aload_n hx hb dX0_ordersAsFar_21 rfl (lv_at hl 2 rfl) ?_
      refine va_get (D := D) (ci := 0) (v := .ref (q 10)) (C := RX0) (T := TX0) (N := 18) hx hb hts iw_X0 hown hK hP 0 rfl rfl 9 (by decide) (hts _ kf_X0_32) (fun _ h9 => h9) rfl dX0_ordersAsFar_22 ?_
      refine va_alen (v := 29) hx hb hK hP 10 0 rfl rfl rfl dX0_ordersAsFar_25 ?_
      refine lv_icmp_ge (tgt := 69) hx hb dX0_ordersAsFar_26 (by decide) (fun c_26 => ?_) (fun c_26 => ?_)
      · -- jump at 26
        refine lv_iload hx hb dX0_ordersAsFar_69 (lv_at hl 1 rfl) ?_
        exact hret z u_2 _ _ _ _ _ _ (vp_nar_int _) ⟨by rw [hz, hw_2], hw_2⟩ hP hD hS (Nat.le_of_ble_eq_true rfl) (Nat.le_of_ble_eq_true rfl) dX0_ordersAsFar_71
      · -- on at 26
        refine lv_iload hx hb dX0_ordersAsFar_29 (lv_at hl 0 rfl) ?_
        refine lv_iload_n hx hb dX0_ordersAsFar_31 rfl (lv_at hl 4 rfl) ?_
        refine lv_icmp_gt (tgt := 69) hx hb dX0_ordersAsFar_32 (by decide) (fun _ => ?_) (fun c_32 => absurd (nI_lt (by omega) (by omega)) c_32)
        refine lv_iload hx hb dX0_ordersAsFar_69 (lv_at hl 1 rfl) ?_
        exact hret z u_2 _ _ _ _ _ _ (vp_nar_int _) ⟨by rw [hz, hw_2], hw_2⟩ hP hD hS (Nat.le_of_ble_eq_true rfl) (Nat.le_of_ble_eq_true rfl) dX0_ordersAsFar_71
    | succ t_19 ih_19 =>
      intro i z hi_19 hz H locs ls hP hD hS hl
      refine lv_iload hx hb dX0_ordersAsFar_19 (lv_at hl 0 rfl) ?_
      refine lv_aload_n hx hb dX0_ordersAsFar_21 rfl (lv_at hl 2 rfl) ?_
      refine va_get (D := D) (ci := 0) (v := .ref (q 10)) (C := RX0) (T := TX0) (N := 18) hx hb hts iw_X0 hown hK hP 0 rfl rfl 9 (by decide) (hts _ kf_X0_32) (fun _ h9 => h9) rfl dX0_ordersAsFar_22 ?_
      refine va_alen (v := 29) hx hb hK hP 10 0 rfl rfl rfl dX0_ordersAsFar_25 ?_
      refine lv_icmp_ge (tgt := 69) hx hb dX0_ordersAsFar_26 (by decide) (fun c_26 => absurd c_26 (nI_ge (a := i) (b := 29) (by omega) (by omega))) (fun _ => ?_)
      refine lv_iload hx hb dX0_ordersAsFar_29 (lv_at hl 0 rfl) ?_
      refine lv_iload_n hx hb dX0_ordersAsFar_31 rfl (lv_at hl 4 rfl) ?_
      refine lv_icmp_gt (tgt := 69) hx hb dX0_ordersAsFar_32 (by decide) (fun c_32 => absurd c_32 (nI_nlt (by omega) (by omega))) (fun _ => ?_)
      refine lv_iload_n hx hb dX0_ordersAsFar_35 rfl (lv_at hl 4 rfl) ?_
      refine lv_iconst (v := 2) hx hb dX0_ordersAsFar_36 (by decide) ?_
      refine lv_iload hx hb dX0_ordersAsFar_37 (lv_at hl 0 rfl) ?_
      refine lv_imul hx hb dX0_ordersAsFar_39 ?_
      refine lv_isub hx hb dX0_ordersAsFar_40 ?_
      refine va_mabs hx hb (hml.trans hl.1.symm) hown (hts _ kl_X0_186) (hts _ ks_abs_int) (hts _ ki_Math) (hts _ kc_abs_int) (Nat.le_of_ble_eq_true rfl) (Nat.le_of_ble_eq_true rfl) (Nat.le_of_ble_eq_true rfl) (Nat.le_of_ble_eq_true rfl) dX0_ordersAsFar_41 ?_
      refine lv_iload_n hx hb dX0_ordersAsFar_44 rfl (lv_at hl 3 rfl) ?_
      refine va_mabs hx hb (hml.trans hl.1.symm) hown (hts _ kl_X0_186) (hts _ ks_abs_int) (hts _ ki_Math) (hts _ kc_abs_int) (Nat.le_of_ble_eq_true rfl) (Nat.le_of_ble_eq_true rfl) (Nat.le_of_ble_eq_true rfl) (Nat.le_of_ble_eq_true rfl) dX0_ordersAsFar_45 ?_
      refine lv_icmp_lt (tgt := 63) hx hb dX0_ordersAsFar_48 (by decide) (fun c_48 => ?_) (fun c_48 => ?_)
      · -- jump at 48
        refine lv_iinc (v := nI (i + 1)) (lv' := [(5, .int (nI (i + 1))), (4, .int z), (0, .ref (q 0)), (2, .int tr), (3, .int (nI P))]) hx hb dX0_ordersAsFar_63 hl (k := 0) rfl (nI_1 i) (by decide) rfl (fun ls hl => ?_)
        refine lv_goto (tgt := 19) hx hb dX0_ordersAsFar_66 (by decide) ?_
        have hP : va_P D vwCl (wL g q n (va_up a 10 u_2) b v) _ := hP
        have hD : va_D A (wL g q n (va_up a 10 u_2) b v) := hD
        have hl : lv_has ls 6 [(5, .int (nI (i + 1))), (4, .int z), (0, .ref (q 0)), (2, .int tr), (3, .int (nI P))] := lv_sub hl [0, 1, 2, 3, 4] rfl
        exact ih_19 (i + 1) z (by omega) (hz.trans (if_pos c_48).symm) _ _ _ hP hD hS hl
      · -- on at 48
        refine lv_iload hx hb dX0_ordersAsFar_51 (lv_at hl 1 rfl) ?_
        refine lv_aload_n hx hb dX0_ordersAsFar_53 rfl (lv_at hl 2 rfl) ?_
        refine va_get (D := D) (ci := 0) (v := .ref (q 10)) (C := RX0) (T := TX0) (N := 18) hx hb hts iw_X0 hown hK hP 0 rfl rfl 9 (by decide) (hts _ kf_X0_32) (fun _ h9 => h9) rfl dX0_ordersAsFar_54 ?_
        refine lv_iload hx hb dX0_ordersAsFar_57 (lv_at hl 0 rfl) ?_
        refine za_iald (k := i) (f := u_2) (v := u_2 i) hx hb hK hP 10 0 rfl rfl rfl (by omega) (by decide) rfl dX0_ordersAsFar_59 ?_
        refine lv_iadd hx hb dX0_ordersAsFar_60 ?_
        refine lv_istore (lv' := [(4, .int (z + (u_2 i))), (5, .int (nI i)), (0, .ref (q 0)), (2, .int tr), (3, .int (nI P))]) hx hb dX0_ordersAsFar_61 hl (by decide) rfl (fun ls hl => ?_)
        refine lv_iinc (v := nI (i + 1)) (lv' := [(5, .int (nI (i + 1))), (4, .int (z + (u_2 i))), (0, .ref (q 0)), (2, .int tr), (3, .int (nI P))]) hx hb dX0_ordersAsFar_63 hl (k := 1) rfl (nI_1 i) (by decide) rfl (fun ls hl => ?_)
        refine lv_goto (tgt := 19) hx hb dX0_ordersAsFar_66 (by decide) ?_
        have hP : va_P D vwCl (wL g q n (va_up a 10 u_2) b v) _ := hP
        have hD : va_D A (wL g q n (va_up a 10 u_2) b v) := hD
        have hl : lv_has ls 6 [(5, .int (nI (i + 1))), (4, .int (z + u_2 i)), (0, .ref (q 0)), (2, .int tr), (3, .int (nI P))] := lv_sub hl [0, 1, 2, 3, 4] rfl
        exact ih_19 (i + 1) (z + u_2 i) (by omega) (by rw [hz]; exact (if_neg c_48).symm) _ _ _ hP hD hS hl
  exact lp_19 ((P + 1) - 0) 0 0 (by omega) rfl _ _ _ hP hD hS (lv_sub hl [0, 1, 3, 5, 2] rfl)
def rm_sample : Room := { frames := 2, cells := 0, slots := 0, locals := 45 }
set_option maxHeartbeats 4000000 in
set_option maxRecDepth 100000 in
theorem c_sample (l : Launch) (D : va_G) (g : Nat → ClassId) (q : Nat → Nat) (n : Nat) (a : Nat → Nat → Int32) (b : Nat → Nat → Int64) (v : Nat → Nat → Int32) (cn : Nat → Nat) (hcn : ∀ w, w < 4 → a 11 w = nI (cn w) ∧ cn w ≤ 8) (x y z : Int32) : zc_i l D (tyG g) yX0_sample cX0_sample 4 (some .int) rm_sample [.ref (q 0), .int x, .int y, .int z] (wL g q n a b v) (fun (r : Int32) (u : zS) => r = (if (m_isWell x && m_within y.toInt64 0 100000 && m_within z.toInt64 (-1000000) 1000000 && (decide (cn x.toNatClampNeg < 8) && decide (a 12 x.toNatClampNeg < y) && !(m_has (v x.toNatClampNeg) z (cn x.toNatClampNeg)))) = true then nI (cn x.toNatClampNeg + 1) else -1) ∧ u = if (m_isWell x && m_within y.toInt64 0 100000 && m_within z.toInt64 (-1000000) 1000000 && (decide (cn x.toNatClampNeg < 8) && decide (a 12 x.toNatClampNeg < y) && !(m_has (v x.toNatClampNeg) z (cn x.toNatClampNeg)))) = true then (va_up (va_up a 11 (upd (a 11) x.toNatClampNeg (nI (cn x.toNatClampNeg + 1)))) 12 (upd (a 12) x.toNatClampNeg y), b, va_up v x.toNatClampNeg (upd (v x.toNatClampNeg) (cn x.toNatClampNeg) z)) else (a, b, v)) (fun u => wL g q n u.1 u.2.1 u.2.2) 0 0 := by
  refine zi_of (by decide) (Nat.le_of_ble_eq_true rfl) rfl ?_
  intro p e s m args below meth cd_ A Q ls C0 hnm hP hD hS hl hret
  obtain ⟨hx, hb, hr, hml, hlocks, hown, hts, hK, hA, hN⟩ := id C0
  have hl : lv_has ls 4 [(0, .ref (q 0)), (1, .int x), (2, .int y), (3, .int z)] := hl
  refine lv_iload_n hx hb dX0_sample_0 rfl (lv_at hl 1 rfl) ?_
  refine zk_pi (rest := []) C0 hP hD hS (c_isWell l D (tyG g) x) kk_X0_117 hl.1 rfl rfl (Nat.le_of_ble_eq_true rfl) ⟨(Nat.le_of_ble_eq_true rfl), (Nat.le_of_ble_eq_true rfl)⟩ rfl rfl ⟨(Nat.le_of_ble_eq_true rfl), (Nat.le_of_ble_eq_true rfl)⟩ dX0_sample_1 (fun r_1 H locs hw_1 hP hS => ?_)
  obtain rfl := hw_1
  refine lv_if_eq (tgt := 33) hx hb dX0_sample_4 (by decide) (fun c_4 => ?_) (fun c_4 => ?_)
  · -- jump at 4
    have c_4 := zb_f c_4
    refine lv_iconst (v := (-1)) hx hb dX0_sample_33 (by decide) ?_
    exact hret (-1) (a, b, v) _ _ _ _ _ _ (vp_nar_int _) (by simp only [c_4]; simp) hP hD hS (Nat.le_of_ble_eq_true rfl) (Nat.le_of_ble_eq_true rfl) dX0_sample_34
  · -- on at 4
    have c_4 := zb_t c_4
    obtain ⟨w, hw0, rfl⟩ := m_rng (m := 3) (by decide) (by decide) c_4
    have hw4 : w < 4 := by omega
    have hcl : (nI w).toNatClampNeg = w := nI_clamp (by omega)
    obtain ⟨hc, hc8⟩ := hcn w hw4
    refine lv_iload_n hx hb dX0_sample_7 rfl (lv_at hl 2 rfl) ?_
    refine lv_i2l (v := y.toInt64) hx hb dX0_sample_8 rfl ?_
    refine lv_lconst (v := 0) hx hb dX0_sample_9 (by decide) ?_
    refine lv_ldc2 (v := 100000) hx hb hown (hts _ kc_X0_120) dX0_sample_10 ?_
    refine zk_pi (rest := []) C0 hP hD hS (c_within l D (tyG g) y.toInt64 (0 : Int64) (100000 : Int64)) kk_X0_46 hl.1 rfl rfl (Nat.le_of_ble_eq_true rfl) ⟨(Nat.le_of_ble_eq_true rfl), (Nat.le_of_ble_eq_true rfl)⟩ rfl rfl ⟨(Nat.le_of_ble_eq_true rfl), (Nat.le_of_ble_eq_true rfl)⟩ dX0_sample_13 (fun r_13 H locs hw_13 hP hS => ?_)
    obtain rfl := hw_13
    refine lv_if_eq (tgt := 33) hx hb dX0_sample_16 (by decide) (fun c_16 => ?_) (fun c_16 => ?_)
    · -- jump at 16
      have c_16 := zb_f c_16
      refine lv_iconst (v := (-1)) hx hb dX0_sample_33 (by decide) ?_
      exact hret (-1) (a, b, v) _ _ _ _ _ _ (vp_nar_int _) (by simp only [hcl, c_4, c_16]; simp) hP hD hS (Nat.le_of_ble_eq_true rfl) (Nat.le_of_ble_eq_true rfl) dX0_sample_34
    · -- on at 16
      have c_16 := zb_t c_16
      refine lv_iload_n hx hb dX0_sample_19 rfl (lv_at hl 3 rfl) ?_
      refine lv_i2l (v := z.toInt64) hx hb dX0_sample_20 rfl ?_
      refine lv_ldc2 (v := (-1000000)) hx hb hown (hts _ kc_X0_122) dX0_sample_21 ?_
      refine lv_ldc2 (v := 1000000) hx hb hown (hts _ kc_X0_70) dX0_sample_24 ?_
      refine zk_pi (rest := []) C0 hP hD hS (c_within l D (tyG g) z.toInt64 ((-1000000) : Int64) (1000000 : Int64)) kk_X0_46 hl.1 rfl rfl (Nat.le_of_ble_eq_true rfl) ⟨(Nat.le_of_ble_eq_true rfl), (Nat.le_of_ble_eq_true rfl)⟩ rfl rfl ⟨(Nat.le_of_ble_eq_true rfl), (Nat.le_of_ble_eq_true rfl)⟩ dX0_sample_27 (fun r_27 H locs hw_27 hP hS => ?_)
      obtain rfl := hw_27
      refine lv_if_ne (tgt := 35) hx hb dX0_sample_30 (by decide) (fun c_30 => ?_) (fun c_30 => ?_)
      · -- jump at 30
        have c_30 := zb_t c_30
        refine lv_aload_n hx hb dX0_sample_35 rfl (lv_at hl 0 rfl) ?_
        refine va_get (D := D) (ci := 0) (v := .ref (q 9)) (C := RX0) (T := TX0) (N := 18) hx hb hts iw_X0 hown hK hP 0 rfl rfl 8 (by decide) (hts _ kf_X0_28) (fun _ h9 => h9) rfl dX0_sample_36 ?_
        refine lv_iload_n hx hb dX0_sample_39 rfl (lv_at hl 1 rfl) ?_
        refine za_aald (k := w) (z := q (11 + w)) hx hb hK hP 9 2 rfl rfl rfl (by omega) (by decide) rfl dX0_sample_40 ?_
        refine lv_iload_n hx hb dX0_sample_41 rfl (lv_at hl 2 rfl) ?_
        refine lv_iload_n hx hb dX0_sample_42 rfl (lv_at hl 3 rfl) ?_
        refine zf_vi (rest := []) C0 hP hD hS (c_take l D g q n a b v w hw4 (cn w) hc hc8 y z) kk_X0_124 kv_X0_124 1 rfl (11 + w) (wL_w w hw4) hl.1 rfl rfl (Nat.le_of_ble_eq_true rfl) ⟨(Nat.le_of_ble_eq_true rfl), (Nat.le_of_ble_eq_true rfl)⟩ rfl rfl ⟨(Nat.le_of_ble_eq_true rfl), (Nat.le_of_ble_eq_true rfl)⟩ dX0_sample_43 (fun r_43 u_43 H locs hw_43 hP hD hS => ?_)
        obtain ⟨rfl, hu⟩ := hw_43
        refine lv_if_eq (tgt := 61) hx hb dX0_sample_46 (by decide) (fun c_46 => ?_) (fun c_46 => ?_)
        · -- jump at 46
          have c_46 := zb_f c_46
          rw [if_neg (by rw [c_46]; decide)] at hu
          subst hu
          have hP : va_P D vwCl (wL g q n a b v) H := hP
          have hD : va_D A (wL g q n a b v) := hD
          refine lv_iconst (v := (-1)) hx hb dX0_sample_61 (by decide) ?_
          exact hret (-1) (a, b, v) _ _ _ _ _ _ (vp_nar_int _) (by simp only [hcl, c_4, c_16, c_30, c_46]; simp) hP hD hS (Nat.le_of_ble_eq_true rfl) (Nat.le_of_ble_eq_true rfl) dX0_sample_62
        · -- on at 46
          have c_46 := zb_t c_46
          rw [if_pos c_46] at hu
          subst hu
          have hP : va_P D vwCl (wL g q n (va_up (va_up a 11 (upd (a 11) w (nI (cn w + 1)))) 12 (upd (a 12) w y)) b (va_up v w (upd (v w) (cn w) z))) H := hP
          have hD : va_D A (wL g q n (va_up (va_up a 11 (upd (a 11) w (nI (cn w + 1)))) 12 (upd (a 12) w y)) b (va_up v w (upd (v w) (cn w) z))) := hD
          refine lv_aload_n hx hb dX0_sample_49 rfl (lv_at hl 0 rfl) ?_
          refine va_get (D := D) (ci := 0) (v := .ref (q 9)) (C := RX0) (T := TX0) (N := 18) hx hb hts iw_X0 hown hK hP 0 rfl rfl 8 (by decide) (hts _ kf_X0_28) (fun _ h9 => h9) rfl dX0_sample_50 ?_
          refine lv_iload_n hx hb dX0_sample_53 rfl (lv_at hl 1 rfl) ?_
          refine za_aald (k := w) (z := q (11 + w)) hx hb hK hP 9 2 rfl rfl rfl (by omega) (by decide) rfl dX0_sample_54 ?_
          refine va_getN (D := D) (ci := 1) (v := .int (upd (a 11) w (nI (cn w + 1)) w)) (C := RX1) (T := TX1) (N := 3) hx hb hts iw_X1 hown hK hP (11 + w) (wL_w w hw4) rfl 1 (by decide) (kn_X0_128 hN) (fun _ h9 => h9) rfl dX0_sample_55 ?_
          rw [pk_us]
          refine lv_goto (tgt := 62) hx hb dX0_sample_58 (by decide) ?_
          exact hret (nI (cn w + 1)) (va_up (va_up a 11 (upd (a 11) w (nI (cn w + 1)))) 12 (upd (a 12) w y), b, va_up v w (upd (v w) (cn w) z)) _ _ _ _ _ _ (vp_nar_int _) (by simp only [hcl, c_4, c_16, c_30, c_46]; simp) hP hD hS (Nat.le_of_ble_eq_true rfl) (Nat.le_of_ble_eq_true rfl) dX0_sample_62
      · -- on at 30
        have c_30 := zb_f c_30
        refine lv_iconst (v := (-1)) hx hb dX0_sample_33 (by decide) ?_
        exact hret (-1) (a, b, v) _ _ _ _ _ _ (vp_nar_int _) (by simp only [hcl, c_4, c_16, c_30]; simp) hP hD hS (Nat.le_of_ble_eq_true rfl) (Nat.le_of_ble_eq_true rfl) dX0_sample_34
def rm_trend : Room := { frames := 2, cells := 0, slots := 0, locals := 45 }
set_option maxHeartbeats 4000000 in
set_option maxRecDepth 100000 in
theorem c_trend (l : Launch) (D : va_G) (g : Nat → ClassId) (q : Nat → Nat) (n : Nat) (a : Nat → Nat → Int32) (b : Nat → Nat → Int64) (v : Nat → Nat → Int32) (cn : Nat → Nat) (hcn : ∀ w, w < 4 → a 11 w = nI (cn w) ∧ cn w ≤ 8) (x : Int32) : zc_i l D (tyG g) yX0_trend cX0_trend 2 (some .int) rm_trend [.ref (q 0), .int x] (wL g q n a b v) (fun (r : Int32) (u : Unit) => r = if m_isWell x = true then m_ro (v x.toNatClampNeg) (cn x.toNatClampNeg - 1) else 0) (fun _ => wL g q n a b v) 0 0 := by
  refine zi_of (by decide) (Nat.le_of_ble_eq_true rfl) rfl ?_
  intro p e s m args below meth cd_ A Q ls C0 hnm hP hD hS hl hret
  obtain ⟨hx, hb, hr, hml, hlocks, hown, hts, hK, hA, hN⟩ := id C0
  have hl : lv_has ls 2 [(0, .ref (q 0)), (1, .int x)] := hl
  refine lv_iload_n hx hb dX0_trend_0 rfl (lv_at hl 1 rfl) ?_
  refine zk_pi (rest := []) C0 hP hD hS (c_isWell l D (tyG g) x) kk_X0_117 hl.1 rfl rfl (Nat.le_of_ble_eq_true rfl) ⟨(Nat.le_of_ble_eq_true rfl), (Nat.le_of_ble_eq_true rfl)⟩ rfl rfl ⟨(Nat.le_of_ble_eq_true rfl), (Nat.le_of_ble_eq_true rfl)⟩ dX0_trend_1 (fun r_1 H locs hw_1 hP hS => ?_)
  obtain rfl := hw_1
  refine lv_if_eq (tgt := 19) hx hb dX0_trend_4 (by decide) (fun c_4 => ?_) (fun c_4 => ?_)
  · -- jump at 4
    have c_4 := zb_f c_4
    refine lv_iconst (v := 0) hx hb dX0_trend_19 (by decide) ?_
    exact hret 0 () _ _ _ _ _ _ (vp_nar_int _) (by simp [c_4]) hP hD hS (Nat.le_of_ble_eq_true rfl) (Nat.le_of_ble_eq_true rfl) dX0_trend_20
  · -- on at 4
    have c_4 := zb_t c_4
    obtain ⟨w, hw0, rfl⟩ := m_rng (m := 3) (by decide) (by decide) c_4
    have hw4 : w < 4 := by omega
    have hcl : (nI w).toNatClampNeg = w := nI_clamp (by omega)
    obtain ⟨hc, hc8⟩ := hcn w hw4
    refine lv_aload_n hx hb dX0_trend_7 rfl (lv_at hl 0 rfl) ?_
    refine va_get (D := D) (ci := 0) (v := .ref (q 9)) (C := RX0) (T := TX0) (N := 18) hx hb hts iw_X0 hown hK hP 0 rfl rfl 8 (by decide) (hts _ kf_X0_28) (fun _ h9 => h9) rfl dX0_trend_8 ?_
    refine lv_iload_n hx hb dX0_trend_11 rfl (lv_at hl 1 rfl) ?_
    refine za_aald (k := w) (z := q (11 + w)) hx hb hK hP 9 2 rfl rfl rfl (by omega) (by decide) rfl dX0_trend_12 ?_
    refine zf_vi (rest := []) C0 hP hD hS (c_risesLessFalls l D g q n a b v w hw4 (cn w) hc hc8) kk_X0_131 kv_X0_131 1 rfl (11 + w) (wL_w w hw4) hl.1 rfl rfl (Nat.le_of_ble_eq_true rfl) ⟨(Nat.le_of_ble_eq_true rfl), (Nat.le_of_ble_eq_true rfl)⟩ rfl rfl ⟨(Nat.le_of_ble_eq_true rfl), (Nat.le_of_ble_eq_true rfl)⟩ dX0_trend_13 (fun r_13 u_13 H locs hw_13 hP hD hS => ?_)
    obtain rfl := hw_13
    refine lv_goto (tgt := 20) hx hb dX0_trend_16 (by decide) ?_
    exact hret (m_ro (v w) (cn w - 1)) () _ _ _ _ _ _ (vp_nar_int _) (by simp [c_4, hcl]) hP hD hS (Nat.le_of_ble_eq_true rfl) (Nat.le_of_ble_eq_true rfl) dX0_trend_20
def rm_odds : Room := { frames := 3, cells := 0, slots := 0, locals := 70 }
set_option maxHeartbeats 4000000 in
set_option maxRecDepth 100000 in
theorem c_odds (l : Launch) (D : va_G) (g : Nat → ClassId) (q : Nat → Nat) (n : Nat) (a : Nat → Nat → Int32) (b : Nat → Nat → Int64) (v : Nat → Nat → Int32) (cn : Nat → Nat) (hcn : ∀ w, w < 4 → a 11 w = nI (cn w) ∧ cn w ≤ 8) (x y : Int32) : zc_i l D (tyG g) yX0_odds cX0_odds 7 (some .int) rm_odds [.ref (q 0), .int x, .int y] (wL g q n a b v) (fun (r : Int32) (u : (Nat → Int32)) => r = (if (m_isWell x && m_within y.toInt64 0 1) = true then m_odds (a 10) (v x.toNatClampNeg) (cn x.toNatClampNeg) y else -1)) (fun u => wL g q n (va_up a 10 u) b v) 0 0 := by
  refine zi_of (by decide) (Nat.le_of_ble_eq_true rfl) rfl ?_
  intro p e s m args below meth cd_ A Q ls C0 hnm hP hD hS hl hret
  obtain ⟨hx, hb, hr, hml, hlocks, hown, hts, hK, hA, hN⟩ := id C0
  have hl : lv_has ls 7 [(0, .ref (q 0)), (1, .int x), (2, .int y)] := hl
  refine lv_iload_n hx hb dX0_odds_0 rfl (lv_at hl 1 rfl) ?_
  refine zk_pi (rest := []) C0 hP hD hS (c_isWell l D (tyG g) x) kk_X0_117 hl.1 rfl rfl (Nat.le_of_ble_eq_true rfl) ⟨(Nat.le_of_ble_eq_true rfl), (Nat.le_of_ble_eq_true rfl)⟩ rfl rfl ⟨(Nat.le_of_ble_eq_true rfl), (Nat.le_of_ble_eq_true rfl)⟩ dX0_odds_1 (fun r_1 H locs hw_1 hP hS => ?_)
  obtain rfl := hw_1
  refine lv_if_eq (tgt := 17) hx hb dX0_odds_4 (by decide) (fun c_4 => ?_) (fun c_4 => ?_)
  · -- jump at 4
    have c_4 := zb_f c_4
    refine lv_iconst (v := (-1)) hx hb dX0_odds_17 (by decide) ?_
    exact hret (-1) (a 10) _ _ _ _ _ _ (vp_nar_int _) (by simp [c_4]) hP hD hS (Nat.le_of_ble_eq_true rfl) (Nat.le_of_ble_eq_true rfl) dX0_odds_18
  · -- on at 4
    have c_4 := zb_t c_4
    obtain ⟨w, hw0, rfl⟩ := m_rng (m := 3) (by decide) (by decide) c_4
    have hw4 : w < 4 := by omega
    have hcl : (nI w).toNatClampNeg = w := nI_clamp (by omega)
    obtain ⟨hc, hc8⟩ := hcn w hw4
    obtain ⟨P, hPc, hP28, hP0⟩ := m_pairs hc8
    refine lv_iload_n hx hb dX0_odds_7 rfl (lv_at hl 2 rfl) ?_
    refine lv_i2l (v := y.toInt64) hx hb dX0_odds_8 rfl ?_
    refine lv_lconst (v := 0) hx hb dX0_odds_9 (by decide) ?_
    refine lv_lconst (v := 1) hx hb dX0_odds_10 (by decide) ?_
    refine zk_pi (rest := []) C0 hP hD hS (c_within l D (tyG g) y.toInt64 (0 : Int64) (1 : Int64)) kk_X0_46 hl.1 rfl rfl (Nat.le_of_ble_eq_true rfl) ⟨(Nat.le_of_ble_eq_true rfl), (Nat.le_of_ble_eq_true rfl)⟩ rfl rfl ⟨(Nat.le_of_ble_eq_true rfl), (Nat.le_of_ble_eq_true rfl)⟩ dX0_odds_11 (fun r_11 H locs hw_11 hP hS => ?_)
    obtain rfl := hw_11
    refine lv_if_ne (tgt := 19) hx hb dX0_odds_14 (by decide) (fun c_14 => ?_) (fun c_14 => ?_)
    · -- jump at 14
      have c_14 := zb_t c_14
      refine lv_aload_n hx hb dX0_odds_19 rfl (lv_at hl 0 rfl) ?_
      refine va_get (D := D) (ci := 0) (v := .ref (q 9)) (C := RX0) (T := TX0) (N := 18) hx hb hts iw_X0 hown hK hP 0 rfl rfl 8 (by decide) (hts _ kf_X0_28) (fun _ h9 => h9) rfl dX0_odds_20 ?_
      refine lv_iload_n hx hb dX0_odds_23 rfl (lv_at hl 1 rfl) ?_
      refine za_aald (k := w) (z := q (11 + w)) hx hb hK hP 9 2 rfl rfl rfl (by omega) (by decide) rfl dX0_odds_24 ?_
      refine va_getN (D := D) (ci := 1) (v := .int (a 11 w)) (C := RX1) (T := TX1) (N := 3) hx hb hts iw_X1 hown hK hP (11 + w) (wL_w w hw4) rfl 1 (by decide) (kn_X0_128 hN) (fun _ h9 => h9) rfl dX0_odds_25 ?_
      rw [hc]
      refine lv_istore_n (lv' := [(3, .int (nI (cn w))), (0, .ref (q 0)), (1, .int (nI w)), (2, .int y)]) hx hb dX0_odds_28 rfl hl (by decide) rfl (fun ls hl => ?_)
      refine lv_aload_n hx hb dX0_odds_29 rfl (lv_at hl 1 rfl) ?_
      refine lv_iload_n hx hb dX0_odds_30 rfl (lv_at hl 0 rfl) ?_
      refine lv_aload_n hx hb dX0_odds_31 rfl (lv_at hl 1 rfl) ?_
      refine va_get (D := D) (ci := 0) (v := .ref (q 9)) (C := RX0) (T := TX0) (N := 18) hx hb hts iw_X0 hown hK hP 0 rfl rfl 8 (by decide) (hts _ kf_X0_28) (fun _ h9 => h9) rfl dX0_odds_32 ?_
      refine lv_iload_n hx hb dX0_odds_35 rfl (lv_at hl 2 rfl) ?_
      refine za_aald (k := w) (z := q (11 + w)) hx hb hK hP 9 2 rfl rfl rfl (by omega) (by decide) rfl dX0_odds_36 ?_
      refine zf_vi (rest := [.int (nI (cn w)), .ref (q 0)]) C0 hP hD hS (c_risesLessFalls l D g q n a b v w hw4 (cn w) hc hc8) kk_X0_131 kv_X0_131 1 rfl (11 + w) (wL_w w hw4) hl.1 rfl rfl (Nat.le_of_ble_eq_true rfl) ⟨(Nat.le_of_ble_eq_true rfl), (Nat.le_of_ble_eq_true rfl)⟩ rfl rfl ⟨(Nat.le_of_ble_eq_true rfl), (Nat.le_of_ble_eq_true rfl)⟩ dX0_odds_37 (fun r_37 u_37 H locs hw_37 hP hD hS => ?_)
      obtain rfl := hw_37
      refine zf_vi (rest := []) C0 hP hD hS (c_ordersAsFar l D g q n a b v (cn w) hc8 P hPc hP28 (m_ro (v w) (cn w - 1))) kk_X0_135 kv_X0_135 0 rfl 0 rfl hl.1 rfl rfl (Nat.le_of_ble_eq_true rfl) ⟨(Nat.le_of_ble_eq_true rfl), (Nat.le_of_ble_eq_true rfl)⟩ rfl rfl ⟨(Nat.le_of_ble_eq_true rfl), (Nat.le_of_ble_eq_true rfl)⟩ dX0_odds_40 (fun r_40 u_40 H locs hw_40 hP hD hS => ?_)
      obtain ⟨rfl, hu⟩ := hw_40
      refine lv_istore (lv' := [(4, .int (m_far (m_co (a 10) (cn w - 1)) (nI P) (m_ro (v w) (cn w - 1)) (P + 1))), (3, .int (nI (cn w))), (0, .ref (q 0)), (1, .int (nI w)), (2, .int y)]) hx hb dX0_odds_43 hl (by decide) rfl (fun ls hl => ?_)
      refine lv_iload_n hx hb dX0_odds_45 rfl (lv_at hl 1 rfl) ?_
      refine zk_pi (rest := []) C0 hP hD hS (c_ordersOf l D (tyG g) (cn w) hc8) kk_X0_139 hl.1 rfl rfl (Nat.le_of_ble_eq_true rfl) ⟨(Nat.le_of_ble_eq_true rfl), (Nat.le_of_ble_eq_true rfl)⟩ rfl rfl ⟨(Nat.le_of_ble_eq_true rfl), (Nat.le_of_ble_eq_true rfl)⟩ dX0_odds_46 (fun r_46 H locs hw_46 hP hS => ?_)
      obtain rfl := hw_46
      refine lv_istore (lv' := [(5, .int (m_oo (cn w - 1))), (4, .int (m_far (m_co (a 10) (cn w - 1)) (nI P) (m_ro (v w) (cn w - 1)) (P + 1))), (3, .int (nI (cn w))), (0, .ref (q 0)), (1, .int (nI w)), (2, .int y)]) hx hb dX0_odds_49 hl (by decide) rfl (fun ls hl => ?_)
      refine lv_iload hx hb dX0_odds_51 (lv_at hl 0 rfl) ?_
      refine lv_iload hx hb dX0_odds_53 (lv_at hl 1 rfl) ?_
      refine zk_pi (rest := []) C0 hP hD hS (c_commonDivisor l D (tyG g) (m_oo (cn w - 1)) (m_far (m_co (a 10) (cn w - 1)) (nI P) (m_ro (v w) (cn w - 1)) (P + 1))) kk_X0_142 hl.1 rfl rfl (Nat.le_of_ble_eq_true rfl) ⟨(Nat.le_of_ble_eq_true rfl), (Nat.le_of_ble_eq_true rfl)⟩ rfl rfl ⟨(Nat.le_of_ble_eq_true rfl), (Nat.le_of_ble_eq_true rfl)⟩ dX0_odds_55 (fun r_55 H locs hw_55 hP hS => ?_)
      obtain rfl := hw_55
      refine lv_istore (lv' := [(6, .int (m_gcd 64 (m_oo (cn w - 1)) (m_far (m_co (a 10) (cn w - 1)) (nI P) (m_ro (v w) (cn w - 1)) (P + 1)))), (5, .int (m_oo (cn w - 1))), (4, .int (m_far (m_co (a 10) (cn w - 1)) (nI P) (m_ro (v w) (cn w - 1)) (P + 1))), (3, .int (nI (cn w))), (0, .ref (q 0)), (1, .int (nI w)), (2, .int y)]) hx hb dX0_odds_58 hl (by decide) rfl (fun ls hl => ?_)
      refine lv_iload_n hx hb dX0_odds_60 rfl (lv_at hl 6 rfl) ?_
      refine lv_if_ne (tgt := 69) hx hb dX0_odds_61 (by decide) (fun c_61 => ?_) (fun c_61 => ?_)
      · -- jump at 61
        refine lv_iload hx hb dX0_odds_69 (lv_at hl 1 rfl) ?_
        refine lv_iload hx hb dX0_odds_71 (lv_at hl 0 rfl) ?_
        refine lv_idiv hx hb dX0_odds_73 (m_gcd_ne _ _ _) ?_
        exact hret ((m_oo (cn w - 1)) / (m_gcd 64 (m_oo (cn w - 1)) (m_far (m_co (a 10) (cn w - 1)) (nI P) (m_ro (v w) (cn w - 1)) (P + 1)))) u_40 _ _ _ _ _ _ (vp_nar_int _) (by simp [c_4, c_14, c_61, hcl, m_odds, hP0]) hP hD hS (Nat.le_of_ble_eq_true rfl) (Nat.le_of_ble_eq_true rfl) dX0_odds_74
      · -- on at 61
        refine lv_iload hx hb dX0_odds_64 (lv_at hl 2 rfl) ?_
        refine lv_goto (tgt := 71) hx hb dX0_odds_66 (by decide) ?_
        refine lv_iload hx hb dX0_odds_71 (lv_at hl 0 rfl) ?_
        refine lv_idiv hx hb dX0_odds_73 (m_gcd_ne _ _ _) ?_
        exact hret ((m_far (m_co (a 10) (cn w - 1)) (nI P) (m_ro (v w) (cn w - 1)) (P + 1)) / (m_gcd 64 (m_oo (cn w - 1)) (m_far (m_co (a 10) (cn w - 1)) (nI P) (m_ro (v w) (cn w - 1)) (P + 1)))) u_40 _ _ _ _ _ _ (vp_nar_int _) (by simp only [c_4, c_14, hcl, Bool.and_true, if_true]; rw [hP0, c_61]; rfl) hP hD hS (Nat.le_of_ble_eq_true rfl) (Nat.le_of_ble_eq_true rfl) dX0_odds_74
    · -- on at 14
      have c_14 := zb_f c_14
      refine lv_iconst (v := (-1)) hx hb dX0_odds_17 (by decide) ?_
      exact hret (-1) (a 10) _ _ _ _ _ _ (vp_nar_int _) (by simp [c_4, c_14, hcl]) hP hD hS (Nat.le_of_ble_eq_true rfl) (Nat.le_of_ble_eq_true rfl) dX0_odds_18
end
section
def rm_X1_init : Room := { frames := 1, cells := 1, slots := 8, locals := 20 }
set_option maxHeartbeats 4000000 in
set_option maxRecDepth 100000 in
theorem c_X1_init (l : Launch) (D : va_G) (g : Nat → ClassId) (x : Nat) : zc_v l D (tyG g) yX1_init cX1_init 1 none rm_X1_init [.ref x] [(x, .inr (1, [.null, .int 0, .int 0]))] (fun (u : Nat) => True) (fun u => [(x, .inr (1, [.ref u, .int 0, .int (-1)])), (u, aI g 8 (fun _ => 0))]) 1 8 := by
  refine zv_of (by decide) (Nat.le_of_ble_eq_true rfl) rfl ?_
  intro p e s m args below meth cd_ A Q ls C0 hnm hP hD hS hl hret
  obtain ⟨hx, hb, hr, hml, hlocks, hown, hts, hK, hA, hN⟩ := id C0
  have hN_ao := zN_ao hN
  have hl : lv_has ls 1 [(0, .ref x)] := hl
  refine lv_aload_n hx hb dX1_init_0 rfl (lv_at hl 0 rfl) ?_
  refine W.objInit hx hb hown (hts _ kl_X1_3) (hts _ ks_objInit) (hts _ kc_objInit) rfl (by rw [hml]; exact hl.1) rfl dX1_init_1 (Nat.le_of_ble_eq_true rfl) (Nat.le_of_ble_eq_true rfl) ?_
  refine W.eq (g2 := F0 m 4 ls []) rfl ?_
  refine lv_aload_n hx hb dX1_init_4 rfl (lv_at hl 0 rfl) ?_
  refine lv_bipush (v := 8) hx hb dX1_init_5 (by decide) ?_
  refine za_newi (N := 8) (t0 := 0) (cI := g 0) hx hb (hts _ ka_int) hK rfl hP hD hS hA rfl (by decide) (Nat.le_of_ble_eq_true rfl) (Nat.le_of_ble_eq_true rfl) dX1_init_7 (fun q1 H hP hD hS => ?_)
  have hP : va_P D vwCl [(x, .inr (1, [.null, .int 0, .int 0])), (q1, .inl (g 0, 8, .inl (fun _ => 0)))] _ := hP
  have hD : va_D A [(x, .inr (1, [.null, .int 0, .int 0])), (q1, .inl (g 0, 8, .inl (fun _ => 0)))] := hD
  refine va_putF (D := D) (ci := 1) (v := .ref q1) (ty := .array .int) (C := RX1) (T := TX1) (N := 3) hx hb hts iw_X1 tyX1 tyok_X1 nm_X1 hown hK hP hD hS 0 rfl rfl 0 (by decide) (hts _ kf_X1_9) (fun _ h9 => h9) rfl hnm rfl (by decide +kernel) rfl rfl (Nat.le_of_ble_eq_true rfl) dX1_init_9 (fun H locs hP hD hS => ?_)
  have hP : va_P D vwCl [(x, .inr (1, [.ref q1, .int 0, .int 0])), (q1, .inl (g 0, 8, .inl (fun _ => 0)))] _ := hP
  have hD : va_D A [(x, .inr (1, [.ref q1, .int 0, .int 0])), (q1, .inl (g 0, 8, .inl (fun _ => 0)))] := hD
  refine lv_aload_n hx hb dX1_init_12 rfl (lv_at hl 0 rfl) ?_
  refine lv_iconst (v := (-1)) hx hb dX1_init_13 (by decide) ?_
  refine va_put (D := D) (ci := 1) (v := .int (-1)) (ty := .int) (C := RX1) (T := TX1) (N := 3) hx hb hts iw_X1 tyX1 tyok_X1 nm_X1 hown hK hP hD hS 0 rfl rfl 2 (by decide) (hts _ kf_X1_15) (fun _ h9 => h9) rfl (by decide +kernel) rfl rfl (Nat.le_of_ble_eq_true rfl) dX1_init_14 (fun H locs hP hD hS => ?_)
  have hP : va_P D vwCl [(x, .inr (1, [.ref q1, .int 0, .int (-1)])), (q1, .inl (g 0, 8, .inl (fun _ => 0)))] _ := hP
  have hD : va_D A [(x, .inr (1, [.ref q1, .int 0, .int (-1)])), (q1, .inl (g 0, 8, .inl (fun _ => 0)))] := hD
  exact hret q1 _ _ _ _ _ _ trivial hP hD hS (Nat.le_of_ble_eq_true rfl) (Nat.le_of_ble_eq_true rfl) dX1_init_17
def rm_X0_init : Room := { frames := 2, cells := 18, slots := 912, locals := 40 }
set_option maxHeartbeats 4000000 in
set_option maxRecDepth 100000 in
theorem c_X0_init (l : Launch) (D : va_G) (g : Nat → ClassId) (h0 : Nat) (x : Int32) : zc_v l D (tyG g) yX0_init cX0_init 4 none rm_X0_init [.ref h0, .int x] [(h0, .inr (0, [.null, .null, .null, .null, .null, .null, .null, .null, .null, .null, .int 0, .int 0, .int 0, .long 0, .int 0, .int 0, .long 0, .long 0]))] (fun (u : Nat → Nat) => u 0 = h0) (fun u => wL g u (m_n x) (m_a0 (m_n x)) m_b0 (fun _ _ => 0)) 18 912 := by
  refine zv_of (by decide) (Nat.le_of_ble_eq_true rfl) rfl ?_
  intro p e s m args below meth cd_ A Q ls C0 hnm hP hD hS hl hret
  obtain ⟨hx, hb, hr, hml, hlocks, hown, hts, hK, hA, hN⟩ := id C0
  have hN_ao := zN_ao hN
  have hl : lv_has ls 4 [(0, .ref h0), (1, .int x)] := hl
  refine lv_aload_n hx hb dX0_init_0 rfl (lv_at hl 0 rfl) ?_
  refine W.objInit hx hb hown (hts _ kl_X0_3) (hts _ ks_objInit) (hts _ kc_objInit) rfl (by rw [hml]; exact hl.1) rfl dX0_init_1 (Nat.le_of_ble_eq_true rfl) (Nat.le_of_ble_eq_true rfl) ?_
  refine W.eq (g2 := F0 m 4 ls []) rfl ?_
  refine lv_aload_n hx hb dX0_init_4 rfl (lv_at hl 0 rfl) ?_
  refine lv_iconst (v := 4) hx hb dX0_init_5 (by decide) ?_
  refine za_newi (N := 4) (t0 := 0) (cI := g 0) hx hb (hts _ ka_int) hK rfl hP hD hS hA rfl (by decide) (by simp only [rm_X0_init]; omega) (by simp only [rm_X0_init]; omega) dX0_init_6 (fun q1 H hP hD hS => ?_)
  have hP : va_P D vwCl [(h0, .inr (0, [.null, .null, .null, .null, .null, .null, .null, .null, .null, .null, .int 0, .int 0, .int 0, .long 0, .int 0, .int 0, .long 0, .long 0])), (q1, .inl (g 0, 4, .inl (fun _ => 0)))] _ := hP
  have hD : va_D A [(h0, .inr (0, [.null, .null, .null, .null, .null, .null, .null, .null, .null, .null, .int 0, .int 0, .int 0, .long 0, .int 0, .int 0, .long 0, .long 0])), (q1, .inl (g 0, 4, .inl (fun _ => 0)))] := hD
  refine va_putF (D := D) (ci := 0) (v := .ref q1) (ty := .array .int) (C := RX0) (T := TX0) (N := 18) hx hb hts iw_X0 tyX0 tyok_X0 nm_X0 hown hK hP hD hS 0 rfl rfl 3 (by decide) (hts _ kf_X0_9) (fun _ h9 => h9) rfl hnm rfl (by decide +kernel) rfl rfl (Nat.le_of_ble_eq_true rfl) dX0_init_8 (fun H locs hP hD hS => ?_)
  have hP : va_P D vwCl [(h0, .inr (0, [.null, .null, .null, .ref q1, .null, .null, .null, .null, .null, .null, .int 0, .int 0, .int 0, .long 0, .int 0, .int 0, .long 0, .long 0])), (q1, .inl (g 0, 4, .inl (fun _ => 0)))] _ := hP
  have hD : va_D A [(h0, .inr (0, [.null, .null, .null, .ref q1, .null, .null, .null, .null, .null, .null, .int 0, .int 0, .int 0, .long 0, .int 0, .int 0, .long 0, .long 0])), (q1, .inl (g 0, 4, .inl (fun _ => 0)))] := hD
  refine lv_aload_n hx hb dX0_init_11 rfl (lv_at hl 0 rfl) ?_
  refine lv_iconst (v := 4) hx hb dX0_init_12 (by decide) ?_
  refine za_newi (N := 4) (t0 := 0) (cI := g 0) hx hb (hts _ ka_int) hK rfl hP hD hS hA rfl (by decide) (by simp only [rm_X0_init]; omega) (by simp only [rm_X0_init]; omega) dX0_init_13 (fun q2 H hP hD hS => ?_)
  have hP : va_P D vwCl [(h0, .inr (0, [.null, .null, .null, .ref q1, .null, .null, .null, .null, .null, .null, .int 0, .int 0, .int 0, .long 0, .int 0, .int 0, .long 0, .long 0])), (q1, .inl (g 0, 4, .inl (fun _ => 0))), (q2, .inl (g 0, 4, .inl (fun _ => 0)))] _ := hP
  have hD : va_D A [(h0, .inr (0, [.null, .null, .null, .ref q1, .null, .null, .null, .null, .null, .null, .int 0, .int 0, .int 0, .long 0, .int 0, .int 0, .long 0, .long 0])), (q1, .inl (g 0, 4, .inl (fun _ => 0))), (q2, .inl (g 0, 4, .inl (fun _ => 0)))] := hD
  refine va_putF (D := D) (ci := 0) (v := .ref q2) (ty := .array .int) (C := RX0) (T := TX0) (N := 18) hx hb hts iw_X0 tyX0 tyok_X0 nm_X0 hown hK hP hD hS 0 rfl rfl 4 (by decide) (hts _ kf_X0_13) (fun _ h9 => h9) rfl hnm rfl (by decide +kernel) rfl rfl (Nat.le_of_ble_eq_true rfl) dX0_init_15 (fun H locs hP hD hS => ?_)
  have hP : va_P D vwCl [(h0, .inr (0, [.null, .null, .null, .ref q1, .ref q2, .null, .null, .null, .null, .null, .int 0, .int 0, .int 0, .long 0, .int 0, .int 0, .long 0, .long 0])), (q1, .inl (g 0, 4, .inl (fun _ => 0))), (q2, .inl (g 0, 4, .inl (fun _ => 0)))] _ := hP
  have hD : va_D A [(h0, .inr (0, [.null, .null, .null, .ref q1, .ref q2, .null, .null, .null, .null, .null, .int 0, .int 0, .int 0, .long 0, .int 0, .int 0, .long 0, .long 0])), (q1, .inl (g 0, 4, .inl (fun _ => 0))), (q2, .inl (g 0, 4, .inl (fun _ => 0)))] := hD
  refine lv_aload_n hx hb dX0_init_18 rfl (lv_at hl 0 rfl) ?_
  refine lv_sipush (v := 400) hx hb dX0_init_19 (by decide) ?_
  refine za_newi (N := 400) (t0 := 0) (cI := g 0) hx hb (hts _ ka_int) hK rfl hP hD hS hA rfl (by decide) (by simp only [rm_X0_init]; omega) (by simp only [rm_X0_init]; omega) dX0_init_22 (fun q3 H hP hD hS => ?_)
  have hP : va_P D vwCl [(h0, .inr (0, [.null, .null, .null, .ref q1, .ref q2, .null, .null, .null, .null, .null, .int 0, .int 0, .int 0, .long 0, .int 0, .int 0, .long 0, .long 0])), (q1, .inl (g 0, 4, .inl (fun _ => 0))), (q2, .inl (g 0, 4, .inl (fun _ => 0))), (q3, .inl (g 0, 400, .inl (fun _ => 0)))] _ := hP
  have hD : va_D A [(h0, .inr (0, [.null, .null, .null, .ref q1, .ref q2, .null, .null, .null, .null, .null, .int 0, .int 0, .int 0, .long 0, .int 0, .int 0, .long 0, .long 0])), (q1, .inl (g 0, 4, .inl (fun _ => 0))), (q2, .inl (g 0, 4, .inl (fun _ => 0))), (q3, .inl (g 0, 400, .inl (fun _ => 0)))] := hD
  refine va_putF (D := D) (ci := 0) (v := .ref q3) (ty := .array .int) (C := RX0) (T := TX0) (N := 18) hx hb hts iw_X0 tyX0 tyok_X0 nm_X0 hown hK hP hD hS 0 rfl rfl 5 (by decide) (hts _ kf_X0_16) (fun _ h9 => h9) rfl hnm rfl (by decide +kernel) rfl rfl (Nat.le_of_ble_eq_true rfl) dX0_init_24 (fun H locs hP hD hS => ?_)
  have hP : va_P D vwCl [(h0, .inr (0, [.null, .null, .null, .ref q1, .ref q2, .ref q3, .null, .null, .null, .null, .int 0, .int 0, .int 0, .long 0, .int 0, .int 0, .long 0, .long 0])), (q1, .inl (g 0, 4, .inl (fun _ => 0))), (q2, .inl (g 0, 4, .inl (fun _ => 0))), (q3, .inl (g 0, 400, .inl (fun _ => 0)))] _ := hP
  have hD : va_D A [(h0, .inr (0, [.null, .null, .null, .ref q1, .ref q2, .ref q3, .null, .null, .null, .null, .int 0, .int 0, .int 0, .long 0, .int 0, .int 0, .long 0, .long 0])), (q1, .inl (g 0, 4, .inl (fun _ => 0))), (q2, .inl (g 0, 4, .inl (fun _ => 0))), (q3, .inl (g 0, 400, .inl (fun _ => 0)))] := hD
  refine lv_aload_n hx hb dX0_init_27 rfl (lv_at hl 0 rfl) ?_
  refine lv_sipush (v := 400) hx hb dX0_init_28 (by decide) ?_
  refine za_newl (N := 400) (t0 := 1) (cI := g 1) hx hb (hts _ ka_long) hK rfl hP hD hS hA rfl (by decide) (by simp only [rm_X0_init]; omega) (by simp only [rm_X0_init]; omega) dX0_init_31 (fun q4 H hP hD hS => ?_)
  have hP : va_P D vwCl [(h0, .inr (0, [.null, .null, .null, .ref q1, .ref q2, .ref q3, .null, .null, .null, .null, .int 0, .int 0, .int 0, .long 0, .int 0, .int 0, .long 0, .long 0])), (q1, .inl (g 0, 4, .inl (fun _ => 0))), (q2, .inl (g 0, 4, .inl (fun _ => 0))), (q3, .inl (g 0, 400, .inl (fun _ => 0))), (q4, .inl (g 1, 400, .inr (.inl (fun _ => 0))))] _ := hP
  have hD : va_D A [(h0, .inr (0, [.null, .null, .null, .ref q1, .ref q2, .ref q3, .null, .null, .null, .null, .int 0, .int 0, .int 0, .long 0, .int 0, .int 0, .long 0, .long 0])), (q1, .inl (g 0, 4, .inl (fun _ => 0))), (q2, .inl (g 0, 4, .inl (fun _ => 0))), (q3, .inl (g 0, 400, .inl (fun _ => 0))), (q4, .inl (g 1, 400, .inr (.inl (fun _ => 0))))] := hD
  refine va_putF (D := D) (ci := 0) (v := .ref q4) (ty := .array .long) (C := RX0) (T := TX0) (N := 18) hx hb hts iw_X0 tyX0 tyok_X0 nm_X0 hown hK hP hD hS 0 rfl rfl 6 (by decide) (hts _ kf_X0_19) (fun _ h9 => h9) rfl hnm rfl (by decide +kernel) rfl rfl (Nat.le_of_ble_eq_true rfl) dX0_init_33 (fun H locs hP hD hS => ?_)
  have hP : va_P D vwCl [(h0, .inr (0, [.null, .null, .null, .ref q1, .ref q2, .ref q3, .ref q4, .null, .null, .null, .int 0, .int 0, .int 0, .long 0, .int 0, .int 0, .long 0, .long 0])), (q1, .inl (g 0, 4, .inl (fun _ => 0))), (q2, .inl (g 0, 4, .inl (fun _ => 0))), (q3, .inl (g 0, 400, .inl (fun _ => 0))), (q4, .inl (g 1, 400, .inr (.inl (fun _ => 0))))] _ := hP
  have hD : va_D A [(h0, .inr (0, [.null, .null, .null, .ref q1, .ref q2, .ref q3, .ref q4, .null, .null, .null, .int 0, .int 0, .int 0, .long 0, .int 0, .int 0, .long 0, .long 0])), (q1, .inl (g 0, 4, .inl (fun _ => 0))), (q2, .inl (g 0, 4, .inl (fun _ => 0))), (q3, .inl (g 0, 400, .inl (fun _ => 0))), (q4, .inl (g 1, 400, .inr (.inl (fun _ => 0))))] := hD
  refine lv_aload_n hx hb dX0_init_36 rfl (lv_at hl 0 rfl) ?_
  refine lv_bipush (v := 9) hx hb dX0_init_37 (by decide) ?_
  refine za_newl (N := 9) (t0 := 1) (cI := g 1) hx hb (hts _ ka_long) hK rfl hP hD hS hA rfl (by decide) (by simp only [rm_X0_init]; omega) (by simp only [rm_X0_init]; omega) dX0_init_39 (fun q5 H hP hD hS => ?_)
  have hP : va_P D vwCl [(h0, .inr (0, [.null, .null, .null, .ref q1, .ref q2, .ref q3, .ref q4, .null, .null, .null, .int 0, .int 0, .int 0, .long 0, .int 0, .int 0, .long 0, .long 0])), (q1, .inl (g 0, 4, .inl (fun _ => 0))), (q2, .inl (g 0, 4, .inl (fun _ => 0))), (q3, .inl (g 0, 400, .inl (fun _ => 0))), (q4, .inl (g 1, 400, .inr (.inl (fun _ => 0)))), (q5, .inl (g 1, 9, .inr (.inl (fun _ => 0))))] _ := hP
  have hD : va_D A [(h0, .inr (0, [.null, .null, .null, .ref q1, .ref q2, .ref q3, .ref q4, .null, .null, .null, .int 0, .int 0, .int 0, .long 0, .int 0, .int 0, .long 0, .long 0])), (q1, .inl (g 0, 4, .inl (fun _ => 0))), (q2, .inl (g 0, 4, .inl (fun _ => 0))), (q3, .inl (g 0, 400, .inl (fun _ => 0))), (q4, .inl (g 1, 400, .inr (.inl (fun _ => 0)))), (q5, .inl (g 1, 9, .inr (.inl (fun _ => 0))))] := hD
  refine va_putF (D := D) (ci := 0) (v := .ref q5) (ty := .array .long) (C := RX0) (T := TX0) (N := 18) hx hb hts iw_X0 tyX0 tyok_X0 nm_X0 hown hK hP hD hS 0 rfl rfl 7 (by decide) (hts _ kf_X0_23) (fun _ h9 => h9) rfl hnm rfl (by decide +kernel) rfl rfl (Nat.le_of_ble_eq_true rfl) dX0_init_41 (fun H locs hP hD hS => ?_)
  have hP : va_P D vwCl [(h0, .inr (0, [.null, .null, .null, .ref q1, .ref q2, .ref q3, .ref q4, .ref q5, .null, .null, .int 0, .int 0, .int 0, .long 0, .int 0, .int 0, .long 0, .long 0])), (q1, .inl (g 0, 4, .inl (fun _ => 0))), (q2, .inl (g 0, 4, .inl (fun _ => 0))), (q3, .inl (g 0, 400, .inl (fun _ => 0))), (q4, .inl (g 1, 400, .inr (.inl (fun _ => 0)))), (q5, .inl (g 1, 9, .inr (.inl (fun _ => 0))))] _ := hP
  have hD : va_D A [(h0, .inr (0, [.null, .null, .null, .ref q1, .ref q2, .ref q3, .ref q4, .ref q5, .null, .null, .int 0, .int 0, .int 0, .long 0, .int 0, .int 0, .long 0, .long 0])), (q1, .inl (g 0, 4, .inl (fun _ => 0))), (q2, .inl (g 0, 4, .inl (fun _ => 0))), (q3, .inl (g 0, 400, .inl (fun _ => 0))), (q4, .inl (g 1, 400, .inr (.inl (fun _ => 0)))), (q5, .inl (g 1, 9, .inr (.inl (fun _ => 0))))] := hD
  refine lv_aload_n hx hb dX0_init_44 rfl (lv_at hl 0 rfl) ?_
  refine lv_iconst (v := 4) hx hb dX0_init_45 (by decide) ?_
  refine za_newq (N := 4) (t0 := 2) (cI := g 2) (C := RX1) hx hb hown (hts _ kd_X0_26) (hN_ao) hK rfl hP hD hS hA rfl (by decide) (by simp only [rm_X0_init]; omega) (by simp only [rm_X0_init]; omega) dX0_init_46 (fun q6 H hP hD hS => ?_)
  have hP : va_P D vwCl [(h0, .inr (0, [.null, .null, .null, .ref q1, .ref q2, .ref q3, .ref q4, .ref q5, .null, .null, .int 0, .int 0, .int 0, .long 0, .int 0, .int 0, .long 0, .long 0])), (q1, .inl (g 0, 4, .inl (fun _ => 0))), (q2, .inl (g 0, 4, .inl (fun _ => 0))), (q3, .inl (g 0, 400, .inl (fun _ => 0))), (q4, .inl (g 1, 400, .inr (.inl (fun _ => 0)))), (q5, .inl (g 1, 9, .inr (.inl (fun _ => 0)))), (q6, .inl (g 2, 4, .inr (.inr (.inr (.inr (fun _ => none))))))] _ := hP
  have hD : va_D A [(h0, .inr (0, [.null, .null, .null, .ref q1, .ref q2, .ref q3, .ref q4, .ref q5, .null, .null, .int 0, .int 0, .int 0, .long 0, .int 0, .int 0, .long 0, .long 0])), (q1, .inl (g 0, 4, .inl (fun _ => 0))), (q2, .inl (g 0, 4, .inl (fun _ => 0))), (q3, .inl (g 0, 400, .inl (fun _ => 0))), (q4, .inl (g 1, 400, .inr (.inl (fun _ => 0)))), (q5, .inl (g 1, 9, .inr (.inl (fun _ => 0)))), (q6, .inl (g 2, 4, .inr (.inr (.inr (.inr (fun _ => none))))))] := hD
  refine va_putF (D := D) (ci := 0) (v := .ref q6) (ty := .array (.object RX1)) (C := RX0) (T := TX0) (N := 18) hx hb hts iw_X0 tyX0 tyok_X0 nm_X0 hown hK hP hD hS 0 rfl rfl 8 (by decide) (hts _ kf_X0_28) (fun _ h9 => h9) rfl hnm rfl (by decide +kernel) rfl rfl (Nat.le_of_ble_eq_true rfl) dX0_init_49 (fun H locs hP hD hS => ?_)
  have hP : va_P D vwCl [(h0, .inr (0, [.null, .null, .null, .ref q1, .ref q2, .ref q3, .ref q4, .ref q5, .ref q6, .null, .int 0, .int 0, .int 0, .long 0, .int 0, .int 0, .long 0, .long 0])), (q1, .inl (g 0, 4, .inl (fun _ => 0))), (q2, .inl (g 0, 4, .inl (fun _ => 0))), (q3, .inl (g 0, 400, .inl (fun _ => 0))), (q4, .inl (g 1, 400, .inr (.inl (fun _ => 0)))), (q5, .inl (g 1, 9, .inr (.inl (fun _ => 0)))), (q6, .inl (g 2, 4, .inr (.inr (.inr (.inr (fun _ => none))))))] _ := hP
  have hD : va_D A [(h0, .inr (0, [.null, .null, .null, .ref q1, .ref q2, .ref q3, .ref q4, .ref q5, .ref q6, .null, .int 0, .int 0, .int 0, .long 0, .int 0, .int 0, .long 0, .long 0])), (q1, .inl (g 0, 4, .inl (fun _ => 0))), (q2, .inl (g 0, 4, .inl (fun _ => 0))), (q3, .inl (g 0, 400, .inl (fun _ => 0))), (q4, .inl (g 1, 400, .inr (.inl (fun _ => 0)))), (q5, .inl (g 1, 9, .inr (.inl (fun _ => 0)))), (q6, .inl (g 2, 4, .inr (.inr (.inr (.inr (fun _ => none))))))] := hD
  refine lv_aload_n hx hb dX0_init_52 rfl (lv_at hl 0 rfl) ?_
  refine lv_bipush (v := 29) hx hb dX0_init_53 (by decide) ?_
  refine za_newi (N := 29) (t0 := 0) (cI := g 0) hx hb (hts _ ka_int) hK rfl hP hD hS hA rfl (by decide) (by simp only [rm_X0_init]; omega) (by simp only [rm_X0_init]; omega) dX0_init_55 (fun q7 H hP hD hS => ?_)
  have hP : va_P D vwCl [(h0, .inr (0, [.null, .null, .null, .ref q1, .ref q2, .ref q3, .ref q4, .ref q5, .ref q6, .null, .int 0, .int 0, .int 0, .long 0, .int 0, .int 0, .long 0, .long 0])), (q1, .inl (g 0, 4, .inl (fun _ => 0))), (q2, .inl (g 0, 4, .inl (fun _ => 0))), (q3, .inl (g 0, 400, .inl (fun _ => 0))), (q4, .inl (g 1, 400, .inr (.inl (fun _ => 0)))), (q5, .inl (g 1, 9, .inr (.inl (fun _ => 0)))), (q6, .inl (g 2, 4, .inr (.inr (.inr (.inr (fun _ => none)))))), (q7, .inl (g 0, 29, .inl (fun _ => 0)))] _ := hP
  have hD : va_D A [(h0, .inr (0, [.null, .null, .null, .ref q1, .ref q2, .ref q3, .ref q4, .ref q5, .ref q6, .null, .int 0, .int 0, .int 0, .long 0, .int 0, .int 0, .long 0, .long 0])), (q1, .inl (g 0, 4, .inl (fun _ => 0))), (q2, .inl (g 0, 4, .inl (fun _ => 0))), (q3, .inl (g 0, 400, .inl (fun _ => 0))), (q4, .inl (g 1, 400, .inr (.inl (fun _ => 0)))), (q5, .inl (g 1, 9, .inr (.inl (fun _ => 0)))), (q6, .inl (g 2, 4, .inr (.inr (.inr (.inr (fun _ => none)))))), (q7, .inl (g 0, 29, .inl (fun _ => 0)))] := hD
  refine va_putF (D := D) (ci := 0) (v := .ref q7) (ty := .array .int) (C := RX0) (T := TX0) (N := 18) hx hb hts iw_X0 tyX0 tyok_X0 nm_X0 hown hK hP hD hS 0 rfl rfl 9 (by decide) (hts _ kf_X0_32) (fun _ h9 => h9) rfl hnm rfl (by decide +kernel) rfl rfl (Nat.le_of_ble_eq_true rfl) dX0_init_57 (fun H locs hP hD hS => ?_)
  have hP : va_P D vwCl [(h0, .inr (0, [.null, .null, .null, .ref q1, .ref q2, .ref q3, .ref q4, .ref q5, .ref q6, .ref q7, .int 0, .int 0, .int 0, .long 0, .int 0, .int 0, .long 0, .long 0])), (q1, .inl (g 0, 4, .inl (fun _ => 0))), (q2, .inl (g 0, 4, .inl (fun _ => 0))), (q3, .inl (g 0, 400, .inl (fun _ => 0))), (q4, .inl (g 1, 400, .inr (.inl (fun _ => 0)))), (q5, .inl (g 1, 9, .inr (.inl (fun _ => 0)))), (q6, .inl (g 2, 4, .inr (.inr (.inr (.inr (fun _ => none)))))), (q7, .inl (g 0, 29, .inl (fun _ => 0)))] _ := hP
  have hD : va_D A [(h0, .inr (0, [.null, .null, .null, .ref q1, .ref q2, .ref q3, .ref q4, .ref q5, .ref q6, .ref q7, .int 0, .int 0, .int 0, .long 0, .int 0, .int 0, .long 0, .long 0])), (q1, .inl (g 0, 4, .inl (fun _ => 0))), (q2, .inl (g 0, 4, .inl (fun _ => 0))), (q3, .inl (g 0, 400, .inl (fun _ => 0))), (q4, .inl (g 1, 400, .inr (.inl (fun _ => 0)))), (q5, .inl (g 1, 9, .inr (.inl (fun _ => 0)))), (q6, .inl (g 2, 4, .inr (.inr (.inr (.inr (fun _ => none)))))), (q7, .inl (g 0, 29, .inl (fun _ => 0)))] := hD
  refine lv_aload_n hx hb dX0_init_60 rfl (lv_at hl 0 rfl) ?_
  refine lv_ldc2 (v := (-1)) hx hb hown (hts _ kc_X0_35) dX0_init_61 ?_
  refine va_put (D := D) (ci := 0) (v := .long (-1)) (ty := .long) (C := RX0) (T := TX0) (N := 18) hx hb hts iw_X0 tyX0 tyok_X0 nm_X0 hown hK hP hD hS 0 rfl rfl 16 (by decide) (hts _ kf_X0_37) (fun _ h9 => h9) rfl (by decide +kernel) rfl rfl (Nat.le_of_ble_eq_true rfl) dX0_init_64 (fun H locs hP hD hS => ?_)
  have hP : va_P D vwCl [(h0, .inr (0, [.null, .null, .null, .ref q1, .ref q2, .ref q3, .ref q4, .ref q5, .ref q6, .ref q7, .int 0, .int 0, .int 0, .long 0, .int 0, .int 0, .long (-1), .long 0])), (q1, .inl (g 0, 4, .inl (fun _ => 0))), (q2, .inl (g 0, 4, .inl (fun _ => 0))), (q3, .inl (g 0, 400, .inl (fun _ => 0))), (q4, .inl (g 1, 400, .inr (.inl (fun _ => 0)))), (q5, .inl (g 1, 9, .inr (.inl (fun _ => 0)))), (q6, .inl (g 2, 4, .inr (.inr (.inr (.inr (fun _ => none)))))), (q7, .inl (g 0, 29, .inl (fun _ => 0)))] _ := hP
  have hD : va_D A [(h0, .inr (0, [.null, .null, .null, .ref q1, .ref q2, .ref q3, .ref q4, .ref q5, .ref q6, .ref q7, .int 0, .int 0, .int 0, .long 0, .int 0, .int 0, .long (-1), .long 0])), (q1, .inl (g 0, 4, .inl (fun _ => 0))), (q2, .inl (g 0, 4, .inl (fun _ => 0))), (q3, .inl (g 0, 400, .inl (fun _ => 0))), (q4, .inl (g 1, 400, .inr (.inl (fun _ => 0)))), (q5, .inl (g 1, 9, .inr (.inl (fun _ => 0)))), (q6, .inl (g 2, 4, .inr (.inr (.inr (.inr (fun _ => none)))))), (q7, .inl (g 0, 29, .inl (fun _ => 0)))] := hD
  refine lv_aload_n hx hb dX0_init_67 rfl (lv_at hl 0 rfl) ?_
  refine lv_ldc2 (v := (-1)) hx hb hown (hts _ kc_X0_35) dX0_init_68 ?_
  refine va_put (D := D) (ci := 0) (v := .long (-1)) (ty := .long) (C := RX0) (T := TX0) (N := 18) hx hb hts iw_X0 tyX0 tyok_X0 nm_X0 hown hK hP hD hS 0 rfl rfl 17 (by decide) (hts _ kf_X0_41) (fun _ h9 => h9) rfl (by decide +kernel) rfl rfl (Nat.le_of_ble_eq_true rfl) dX0_init_71 (fun H locs hP hD hS => ?_)
  have hP : va_P D vwCl [(h0, .inr (0, [.null, .null, .null, .ref q1, .ref q2, .ref q3, .ref q4, .ref q5, .ref q6, .ref q7, .int 0, .int 0, .int 0, .long 0, .int 0, .int 0, .long (-1), .long (-1)])), (q1, .inl (g 0, 4, .inl (fun _ => 0))), (q2, .inl (g 0, 4, .inl (fun _ => 0))), (q3, .inl (g 0, 400, .inl (fun _ => 0))), (q4, .inl (g 1, 400, .inr (.inl (fun _ => 0)))), (q5, .inl (g 1, 9, .inr (.inl (fun _ => 0)))), (q6, .inl (g 2, 4, .inr (.inr (.inr (.inr (fun _ => none)))))), (q7, .inl (g 0, 29, .inl (fun _ => 0)))] _ := hP
  have hD : va_D A [(h0, .inr (0, [.null, .null, .null, .ref q1, .ref q2, .ref q3, .ref q4, .ref q5, .ref q6, .ref q7, .int 0, .int 0, .int 0, .long 0, .int 0, .int 0, .long (-1), .long (-1)])), (q1, .inl (g 0, 4, .inl (fun _ => 0))), (q2, .inl (g 0, 4, .inl (fun _ => 0))), (q3, .inl (g 0, 400, .inl (fun _ => 0))), (q4, .inl (g 1, 400, .inr (.inl (fun _ => 0)))), (q5, .inl (g 1, 9, .inr (.inl (fun _ => 0)))), (q6, .inl (g 2, 4, .inr (.inr (.inr (.inr (fun _ => none)))))), (q7, .inl (g 0, 29, .inl (fun _ => 0)))] := hD
  refine lv_iload_n hx hb dX0_init_74 rfl (lv_at hl 1 rfl) ?_
  refine lv_i2l (v := x.toInt64) hx hb dX0_init_75 rfl ?_
  refine lv_lconst (v := 1) hx hb dX0_init_76 (by decide) ?_
  refine lv_ldc2 (v := 6) hx hb hown (hts _ kc_X0_44) dX0_init_77 ?_
  refine zk_pi (rest := []) C0 hP hD hS (c_within l D (tyG g) x.toInt64 (1 : Int64) (6 : Int64)) kk_X0_46 hl.1 rfl rfl (Nat.le_of_ble_eq_true rfl) ⟨(Nat.le_of_ble_eq_true rfl), (Nat.le_of_ble_eq_true rfl)⟩ rfl rfl ⟨by simp only [rm_X0_init]; omega, by simp only [rm_X0_init]; omega⟩ dX0_init_80 (fun r_80 H locs hw_80 hP hS => ?_)
  obtain rfl := hw_80
  refine lv_if_eq (tgt := 90) hx hb dX0_init_83 (by decide) (fun c_83 => ?_) (fun c_83 => ?_)
  · -- jump at 83
    have c_83 := zb_f c_83
    refine lv_iconst (v := 1) hx hb dX0_init_90 (by decide) ?_
    obtain ⟨k, ek⟩ : ∃ k : Nat, k = 1 := ⟨_, rfl⟩
    have hk : 1 ≤ k ∧ k ≤ 6 := by omega
    have hkx : m_n x = k := by simp [m_n, c_83, ek]
    rw [show (1 : Int32) = nI k from by rw [ek]; rfl]
    refine lv_istore_n (lv' := [(2, .int (nI k)), (0, .ref h0), (1, .int x)]) hx hb dX0_init_91 rfl hl (by decide) rfl (fun ls hl => ?_)
    refine lv_aload_n hx hb dX0_init_92 rfl (lv_at hl 1 rfl) ?_
    refine lv_iload_n hx hb dX0_init_93 rfl (lv_at hl 0 rfl) ?_
    refine za_newl (N := k) (t0 := 1) (cI := g 1) hx hb (hts _ ka_long) hK rfl hP hD hS hA rfl (by omega) (by simp only [rm_X0_init]; omega) (by simp only [rm_X0_init]; omega) dX0_init_94 (fun q8 H hP hD hS => ?_)
    have hP : va_P D vwCl [(h0, .inr (0, [.null, .null, .null, .ref q1, .ref q2, .ref q3, .ref q4, .ref q5, .ref q6, .ref q7, .int 0, .int 0, .int 0, .long 0, .int 0, .int 0, .long (-1), .long (-1)])), (q1, .inl (g 0, 4, .inl (fun _ => 0))), (q2, .inl (g 0, 4, .inl (fun _ => 0))), (q3, .inl (g 0, 400, .inl (fun _ => 0))), (q4, .inl (g 1, 400, .inr (.inl (fun _ => 0)))), (q5, .inl (g 1, 9, .inr (.inl (fun _ => 0)))), (q6, .inl (g 2, 4, .inr (.inr (.inr (.inr (fun _ => none)))))), (q7, .inl (g 0, 29, .inl (fun _ => 0))), (q8, .inl (g 1, k, .inr (.inl (fun _ => 0))))] _ := hP
    have hD : va_D A [(h0, .inr (0, [.null, .null, .null, .ref q1, .ref q2, .ref q3, .ref q4, .ref q5, .ref q6, .ref q7, .int 0, .int 0, .int 0, .long 0, .int 0, .int 0, .long (-1), .long (-1)])), (q1, .inl (g 0, 4, .inl (fun _ => 0))), (q2, .inl (g 0, 4, .inl (fun _ => 0))), (q3, .inl (g 0, 400, .inl (fun _ => 0))), (q4, .inl (g 1, 400, .inr (.inl (fun _ => 0)))), (q5, .inl (g 1, 9, .inr (.inl (fun _ => 0)))), (q6, .inl (g 2, 4, .inr (.inr (.inr (.inr (fun _ => none)))))), (q7, .inl (g 0, 29, .inl (fun _ => 0))), (q8, .inl (g 1, k, .inr (.inl (fun _ => 0))))] := hD
    refine va_putF (D := D) (ci := 0) (v := .ref q8) (ty := .array .long) (C := RX0) (T := TX0) (N := 18) hx hb hts iw_X0 tyX0 tyok_X0 nm_X0 hown hK hP hD hS 0 rfl rfl 0 (by decide) (hts _ kf_X0_50) (fun _ h9 => h9) rfl hnm rfl (by decide +kernel) rfl rfl (Nat.le_of_ble_eq_true rfl) dX0_init_96 (fun H locs hP hD hS => ?_)
    have hP : va_P D vwCl [(h0, .inr (0, [.ref q8, .null, .null, .ref q1, .ref q2, .ref q3, .ref q4, .ref q5, .ref q6, .ref q7, .int 0, .int 0, .int 0, .long 0, .int 0, .int 0, .long (-1), .long (-1)])), (q1, .inl (g 0, 4, .inl (fun _ => 0))), (q2, .inl (g 0, 4, .inl (fun _ => 0))), (q3, .inl (g 0, 400, .inl (fun _ => 0))), (q4, .inl (g 1, 400, .inr (.inl (fun _ => 0)))), (q5, .inl (g 1, 9, .inr (.inl (fun _ => 0)))), (q6, .inl (g 2, 4, .inr (.inr (.inr (.inr (fun _ => none)))))), (q7, .inl (g 0, 29, .inl (fun _ => 0))), (q8, .inl (g 1, k, .inr (.inl (fun _ => 0))))] _ := hP
    have hD : va_D A [(h0, .inr (0, [.ref q8, .null, .null, .ref q1, .ref q2, .ref q3, .ref q4, .ref q5, .ref q6, .ref q7, .int 0, .int 0, .int 0, .long 0, .int 0, .int 0, .long (-1), .long (-1)])), (q1, .inl (g 0, 4, .inl (fun _ => 0))), (q2, .inl (g 0, 4, .inl (fun _ => 0))), (q3, .inl (g 0, 400, .inl (fun _ => 0))), (q4, .inl (g 1, 400, .inr (.inl (fun _ => 0)))), (q5, .inl (g 1, 9, .inr (.inl (fun _ => 0)))), (q6, .inl (g 2, 4, .inr (.inr (.inr (.inr (fun _ => none)))))), (q7, .inl (g 0, 29, .inl (fun _ => 0))), (q8, .inl (g 1, k, .inr (.inl (fun _ => 0))))] := hD
    refine lv_aload_n hx hb dX0_init_99 rfl (lv_at hl 1 rfl) ?_
    refine lv_iload_n hx hb dX0_init_100 rfl (lv_at hl 0 rfl) ?_
    refine za_newi (N := k) (t0 := 0) (cI := g 0) hx hb (hts _ ka_int) hK rfl hP hD hS hA rfl (by omega) (by simp only [rm_X0_init]; omega) (by simp only [rm_X0_init]; omega) dX0_init_101 (fun q9 H hP hD hS => ?_)
    have hP : va_P D vwCl [(h0, .inr (0, [.ref q8, .null, .null, .ref q1, .ref q2, .ref q3, .ref q4, .ref q5, .ref q6, .ref q7, .int 0, .int 0, .int 0, .long 0, .int 0, .int 0, .long (-1), .long (-1)])), (q1, .inl (g 0, 4, .inl (fun _ => 0))), (q2, .inl (g 0, 4, .inl (fun _ => 0))), (q3, .inl (g 0, 400, .inl (fun _ => 0))), (q4, .inl (g 1, 400, .inr (.inl (fun _ => 0)))), (q5, .inl (g 1, 9, .inr (.inl (fun _ => 0)))), (q6, .inl (g 2, 4, .inr (.inr (.inr (.inr (fun _ => none)))))), (q7, .inl (g 0, 29, .inl (fun _ => 0))), (q8, .inl (g 1, k, .inr (.inl (fun _ => 0)))), (q9, .inl (g 0, k, .inl (fun _ => 0)))] _ := hP
    have hD : va_D A [(h0, .inr (0, [.ref q8, .null, .null, .ref q1, .ref q2, .ref q3, .ref q4, .ref q5, .ref q6, .ref q7, .int 0, .int 0, .int 0, .long 0, .int 0, .int 0, .long (-1), .long (-1)])), (q1, .inl (g 0, 4, .inl (fun _ => 0))), (q2, .inl (g 0, 4, .inl (fun _ => 0))), (q3, .inl (g 0, 400, .inl (fun _ => 0))), (q4, .inl (g 1, 400, .inr (.inl (fun _ => 0)))), (q5, .inl (g 1, 9, .inr (.inl (fun _ => 0)))), (q6, .inl (g 2, 4, .inr (.inr (.inr (.inr (fun _ => none)))))), (q7, .inl (g 0, 29, .inl (fun _ => 0))), (q8, .inl (g 1, k, .inr (.inl (fun _ => 0)))), (q9, .inl (g 0, k, .inl (fun _ => 0)))] := hD
    refine va_putF (D := D) (ci := 0) (v := .ref q9) (ty := .array .int) (C := RX0) (T := TX0) (N := 18) hx hb hts iw_X0 tyX0 tyok_X0 nm_X0 hown hK hP hD hS 0 rfl rfl 1 (by decide) (hts _ kf_X0_53) (fun _ h9 => h9) rfl hnm rfl (by decide +kernel) rfl rfl (Nat.le_of_ble_eq_true rfl) dX0_init_103 (fun H locs hP hD hS => ?_)
    have hP : va_P D vwCl [(h0, .inr (0, [.ref q8, .ref q9, .null, .ref q1, .ref q2, .ref q3, .ref q4, .ref q5, .ref q6, .ref q7, .int 0, .int 0, .int 0, .long 0, .int 0, .int 0, .long (-1), .long (-1)])), (q1, .inl (g 0, 4, .inl (fun _ => 0))), (q2, .inl (g 0, 4, .inl (fun _ => 0))), (q3, .inl (g 0, 400, .inl (fun _ => 0))), (q4, .inl (g 1, 400, .inr (.inl (fun _ => 0)))), (q5, .inl (g 1, 9, .inr (.inl (fun _ => 0)))), (q6, .inl (g 2, 4, .inr (.inr (.inr (.inr (fun _ => none)))))), (q7, .inl (g 0, 29, .inl (fun _ => 0))), (q8, .inl (g 1, k, .inr (.inl (fun _ => 0)))), (q9, .inl (g 0, k, .inl (fun _ => 0)))] _ := hP
    have hD : va_D A [(h0, .inr (0, [.ref q8, .ref q9, .null, .ref q1, .ref q2, .ref q3, .ref q4, .ref q5, .ref q6, .ref q7, .int 0, .int 0, .int 0, .long 0, .int 0, .int 0, .long (-1), .long (-1)])), (q1, .inl (g 0, 4, .inl (fun _ => 0))), (q2, .inl (g 0, 4, .inl (fun _ => 0))), (q3, .inl (g 0, 400, .inl (fun _ => 0))), (q4, .inl (g 1, 400, .inr (.inl (fun _ => 0)))), (q5, .inl (g 1, 9, .inr (.inl (fun _ => 0)))), (q6, .inl (g 2, 4, .inr (.inr (.inr (.inr (fun _ => none)))))), (q7, .inl (g 0, 29, .inl (fun _ => 0))), (q8, .inl (g 1, k, .inr (.inl (fun _ => 0)))), (q9, .inl (g 0, k, .inl (fun _ => 0)))] := hD
    refine lv_aload_n hx hb dX0_init_106 rfl (lv_at hl 1 rfl) ?_
    refine lv_iload_n hx hb dX0_init_107 rfl (lv_at hl 0 rfl) ?_
    refine za_newi (N := k) (t0 := 0) (cI := g 0) hx hb (hts _ ka_int) hK rfl hP hD hS hA rfl (by omega) (by simp only [rm_X0_init]; omega) (by simp only [rm_X0_init]; omega) dX0_init_108 (fun q10 H hP hD hS => ?_)
    have hP : va_P D vwCl [(h0, .inr (0, [.ref q8, .ref q9, .null, .ref q1, .ref q2, .ref q3, .ref q4, .ref q5, .ref q6, .ref q7, .int 0, .int 0, .int 0, .long 0, .int 0, .int 0, .long (-1), .long (-1)])), (q1, .inl (g 0, 4, .inl (fun _ => 0))), (q2, .inl (g 0, 4, .inl (fun _ => 0))), (q3, .inl (g 0, 400, .inl (fun _ => 0))), (q4, .inl (g 1, 400, .inr (.inl (fun _ => 0)))), (q5, .inl (g 1, 9, .inr (.inl (fun _ => 0)))), (q6, .inl (g 2, 4, .inr (.inr (.inr (.inr (fun _ => none)))))), (q7, .inl (g 0, 29, .inl (fun _ => 0))), (q8, .inl (g 1, k, .inr (.inl (fun _ => 0)))), (q9, .inl (g 0, k, .inl (fun _ => 0))), (q10, .inl (g 0, k, .inl (fun _ => 0)))] _ := hP
    have hD : va_D A [(h0, .inr (0, [.ref q8, .ref q9, .null, .ref q1, .ref q2, .ref q3, .ref q4, .ref q5, .ref q6, .ref q7, .int 0, .int 0, .int 0, .long 0, .int 0, .int 0, .long (-1), .long (-1)])), (q1, .inl (g 0, 4, .inl (fun _ => 0))), (q2, .inl (g 0, 4, .inl (fun _ => 0))), (q3, .inl (g 0, 400, .inl (fun _ => 0))), (q4, .inl (g 1, 400, .inr (.inl (fun _ => 0)))), (q5, .inl (g 1, 9, .inr (.inl (fun _ => 0)))), (q6, .inl (g 2, 4, .inr (.inr (.inr (.inr (fun _ => none)))))), (q7, .inl (g 0, 29, .inl (fun _ => 0))), (q8, .inl (g 1, k, .inr (.inl (fun _ => 0)))), (q9, .inl (g 0, k, .inl (fun _ => 0))), (q10, .inl (g 0, k, .inl (fun _ => 0)))] := hD
    refine va_putF (D := D) (ci := 0) (v := .ref q10) (ty := .array .int) (C := RX0) (T := TX0) (N := 18) hx hb hts iw_X0 tyX0 tyok_X0 nm_X0 hown hK hP hD hS 0 rfl rfl 2 (by decide) (hts _ kf_X0_56) (fun _ h9 => h9) rfl hnm rfl (by decide +kernel) rfl rfl (Nat.le_of_ble_eq_true rfl) dX0_init_110 (fun H locs hP hD hS => ?_)
    have hP : va_P D vwCl [(h0, .inr (0, [.ref q8, .ref q9, .ref q10, .ref q1, .ref q2, .ref q3, .ref q4, .ref q5, .ref q6, .ref q7, .int 0, .int 0, .int 0, .long 0, .int 0, .int 0, .long (-1), .long (-1)])), (q1, .inl (g 0, 4, .inl (fun _ => 0))), (q2, .inl (g 0, 4, .inl (fun _ => 0))), (q3, .inl (g 0, 400, .inl (fun _ => 0))), (q4, .inl (g 1, 400, .inr (.inl (fun _ => 0)))), (q5, .inl (g 1, 9, .inr (.inl (fun _ => 0)))), (q6, .inl (g 2, 4, .inr (.inr (.inr (.inr (fun _ => none)))))), (q7, .inl (g 0, 29, .inl (fun _ => 0))), (q8, .inl (g 1, k, .inr (.inl (fun _ => 0)))), (q9, .inl (g 0, k, .inl (fun _ => 0))), (q10, .inl (g 0, k, .inl (fun _ => 0)))] _ := hP
    have hD : va_D A [(h0, .inr (0, [.ref q8, .ref q9, .ref q10, .ref q1, .ref q2, .ref q3, .ref q4, .ref q5, .ref q6, .ref q7, .int 0, .int 0, .int 0, .long 0, .int 0, .int 0, .long (-1), .long (-1)])), (q1, .inl (g 0, 4, .inl (fun _ => 0))), (q2, .inl (g 0, 4, .inl (fun _ => 0))), (q3, .inl (g 0, 400, .inl (fun _ => 0))), (q4, .inl (g 1, 400, .inr (.inl (fun _ => 0)))), (q5, .inl (g 1, 9, .inr (.inl (fun _ => 0)))), (q6, .inl (g 2, 4, .inr (.inr (.inr (.inr (fun _ => none)))))), (q7, .inl (g 0, 29, .inl (fun _ => 0))), (q8, .inl (g 1, k, .inr (.inl (fun _ => 0)))), (q9, .inl (g 0, k, .inl (fun _ => 0))), (q10, .inl (g 0, k, .inl (fun _ => 0)))] := hD
    refine lv_aload_n hx hb dX0_init_113 rfl (lv_at hl 1 rfl) ?_
    refine va_get (D := D) (ci := 0) (v := .ref q10) (C := RX0) (T := TX0) (N := 18) hx hb hts iw_X0 hown hK hP 0 rfl rfl 2 (by decide) (hts _ kf_X0_56) (fun _ h9 => h9) rfl dX0_init_114 ?_
    refine lv_sipush (v := 1000) hx hb dX0_init_117 (by decide) ?_
    refine zk_sv (rest := []) (wr := [0, 1, 2, 3, 4, 5, 6, 7, 8, 9].filterMap (fun i => ([(h0, .inr (0, [.ref q8, .ref q9, .ref q10, .ref q1, .ref q2, .ref q3, .ref q4, .ref q5, .ref q6, .ref q7, .int 0, .int 0, .int 0, .long 0, .int 0, .int 0, .long (-1), .long (-1)])), (q1, .inl (g 0, 4, .inl (fun _ => 0))), (q2, .inl (g 0, 4, .inl (fun _ => 0))), (q3, .inl (g 0, 400, .inl (fun _ => 0))), (q4, .inl (g 1, 400, .inr (.inl (fun _ => 0)))), (q5, .inl (g 1, 9, .inr (.inl (fun _ => 0)))), (q6, .inl (g 2, 4, .inr (.inr (.inr (.inr (fun _ => none)))))), (q7, .inl (g 0, 29, .inl (fun _ => 0))), (q8, .inl (g 1, k, .inr (.inl (fun _ => 0)))), (q9, .inl (g 0, k, .inl (fun _ => 0))), (q10, .inl (g 0, k, .inl (fun _ => 0)))] : va_W)[i]?)) C0 hP hD hS (c_fill l D (tyG g) 0 (g 0) rfl q10 k (by omega) (fun _ => 0) (1000 : Int32)) kk_X0_59 ks_fill [10] [0, 1, 2, 3, 4, 5, 6, 7, 8, 9] rfl rfl ⟨by decide, by decide, by decide⟩ hl.1 rfl rfl (Nat.le_of_ble_eq_true rfl) ⟨(Nat.le_of_ble_eq_true rfl), (Nat.le_of_ble_eq_true rfl)⟩ rfl rfl ⟨by simp only [rm_X0_init]; omega, by simp only [rm_X0_init]; omega⟩ dX0_init_120 (fun u_120 H locs hw_120 hP hD hS => ?_)
    have hP : va_P D vwCl [(h0, .inr (0, [.ref q8, .ref q9, .ref q10, .ref q1, .ref q2, .ref q3, .ref q4, .ref q5, .ref q6, .ref q7, .int 0, .int 0, .int 0, .long 0, .int 0, .int 0, .long (-1), .long (-1)])), (q1, .inl (g 0, 4, .inl (fun _ => 0))), (q2, .inl (g 0, 4, .inl (fun _ => 0))), (q3, .inl (g 0, 400, .inl (fun _ => 0))), (q4, .inl (g 1, 400, .inr (.inl (fun _ => 0)))), (q5, .inl (g 1, 9, .inr (.inl (fun _ => 0)))), (q6, .inl (g 2, 4, .inr (.inr (.inr (.inr (fun _ => none)))))), (q7, .inl (g 0, 29, .inl (fun _ => 0))), (q8, .inl (g 1, k, .inr (.inl (fun _ => 0)))), (q9, .inl (g 0, k, .inl (fun _ => 0))), (q10, .inl (g 0, k, .inl (m_fil (1000 : Int32) (fun _ => 0) k)))] _ := hP
    have hD : va_D A [(h0, .inr (0, [.ref q8, .ref q9, .ref q10, .ref q1, .ref q2, .ref q3, .ref q4, .ref q5, .ref q6, .ref q7, .int 0, .int 0, .int 0, .long 0, .int 0, .int 0, .long (-1), .long (-1)])), (q1, .inl (g 0, 4, .inl (fun _ => 0))), (q2, .inl (g 0, 4, .inl (fun _ => 0))), (q3, .inl (g 0, 400, .inl (fun _ => 0))), (q4, .inl (g 1, 400, .inr (.inl (fun _ => 0)))), (q5, .inl (g 1, 9, .inr (.inl (fun _ => 0)))), (q6, .inl (g 2, 4, .inr (.inr (.inr (.inr (fun _ => none)))))), (q7, .inl (g 0, 29, .inl (fun _ => 0))), (q8, .inl (g 1, k, .inr (.inl (fun _ => 0)))), (q9, .inl (g 0, k, .inl (fun _ => 0))), (q10, .inl (g 0, k, .inl (m_fil (1000 : Int32) (fun _ => 0) k)))] := hD
    refine lv_iconst (v := 0) hx hb dX0_init_123 (by decide) ?_
    refine lv_istore_n (lv' := [(3, .int 0), (2, .int (nI k)), (0, .ref h0), (1, .int x)]) hx hb dX0_init_124 rfl hl (by decide) rfl (fun ls hl => ?_)
    refine lv_iload_n hx hb dX0_init_125 rfl (lv_at hl 0 rfl) ?_
    refine lv_iconst (v := 4) hx hb dX0_init_126 (by decide) ?_
    refine lv_icmp_ge (tgt := 149) hx hb dX0_init_127 (by decide) (fun c_127 => absurd c_127 (by decide)) (fun _ => ?_)
    refine lv_aload_n hx hb dX0_init_130 rfl (lv_at hl 2 rfl) ?_
    refine va_get (D := D) (ci := 0) (v := .ref q6) (C := RX0) (T := TX0) (N := 18) hx hb hts iw_X0 hown hK hP 0 rfl rfl 8 (by decide) (hts _ kf_X0_28) (fun _ h9 => h9) rfl dX0_init_131 ?_
    refine lv_iload_n hx hb dX0_init_134 rfl (lv_at hl 0 rfl) ?_
    refine va_new (ci := 1) (fs := [.null, .int 0, .int 0]) (C := RX1) (T := TX1) (N := 3) hx hb hts iw_X1 tyX1 tyok_X1 hown (hts _ kd_X0_26) (hts _ kt_X1) (hts _ ki_X1) hK hP hD hS hA rfl (fun j hj => by rcases (show j = 0 ∨ j = 1 ∨ j = 2 by omega) with rfl | rfl | rfl <;> rfl) (by simp only [rm_X0_init]; omega) (by simp only [rm_X0_init]; omega) dX0_init_135 (fun q11 H hP hD hS => ?_)
    have hP : va_P D vwCl [(h0, .inr (0, [.ref q8, .ref q9, .ref q10, .ref q1, .ref q2, .ref q3, .ref q4, .ref q5, .ref q6, .ref q7, .int 0, .int 0, .int 0, .long 0, .int 0, .int 0, .long (-1), .long (-1)])), (q1, .inl (g 0, 4, .inl (fun _ => 0))), (q2, .inl (g 0, 4, .inl (fun _ => 0))), (q3, .inl (g 0, 400, .inl (fun _ => 0))), (q4, .inl (g 1, 400, .inr (.inl (fun _ => 0)))), (q5, .inl (g 1, 9, .inr (.inl (fun _ => 0)))), (q6, .inl (g 2, 4, .inr (.inr (.inr (.inr (fun _ => none)))))), (q7, .inl (g 0, 29, .inl (fun _ => 0))), (q8, .inl (g 1, k, .inr (.inl (fun _ => 0)))), (q9, .inl (g 0, k, .inl (fun _ => 0))), (q10, .inl (g 0, k, .inl (m_fil (1000 : Int32) (fun _ => 0) k))), (q11, .inr (1, [.null, .int 0, .int 0]))] _ := hP
    have hD : va_D A [(h0, .inr (0, [.ref q8, .ref q9, .ref q10, .ref q1, .ref q2, .ref q3, .ref q4, .ref q5, .ref q6, .ref q7, .int 0, .int 0, .int 0, .long 0, .int 0, .int 0, .long (-1), .long (-1)])), (q1, .inl (g 0, 4, .inl (fun _ => 0))), (q2, .inl (g 0, 4, .inl (fun _ => 0))), (q3, .inl (g 0, 400, .inl (fun _ => 0))), (q4, .inl (g 1, 400, .inr (.inl (fun _ => 0)))), (q5, .inl (g 1, 9, .inr (.inl (fun _ => 0)))), (q6, .inl (g 2, 4, .inr (.inr (.inr (.inr (fun _ => none)))))), (q7, .inl (g 0, 29, .inl (fun _ => 0))), (q8, .inl (g 1, k, .inr (.inl (fun _ => 0)))), (q9, .inl (g 0, k, .inl (fun _ => 0))), (q10, .inl (g 0, k, .inl (m_fil (1000 : Int32) (fun _ => 0) k))), (q11, .inr (1, [.null, .int 0, .int 0]))] := hD
    refine lv_dup hx hb dX0_init_138 rfl ?_
    refine zk_xvN (rest := [.ref q11, .int 0, .ref q6]) (wr := [0, 1, 2, 3, 4, 5, 6, 7, 8, 9, 10].filterMap (fun i => ([(h0, .inr (0, [.ref q8, .ref q9, .ref q10, .ref q1, .ref q2, .ref q3, .ref q4, .ref q5, .ref q6, .ref q7, .int 0, .int 0, .int 0, .long 0, .int 0, .int 0, .long (-1), .long (-1)])), (q1, .inl (g 0, 4, .inl (fun _ => 0))), (q2, .inl (g 0, 4, .inl (fun _ => 0))), (q3, .inl (g 0, 400, .inl (fun _ => 0))), (q4, .inl (g 1, 400, .inr (.inl (fun _ => 0)))), (q5, .inl (g 1, 9, .inr (.inl (fun _ => 0)))), (q6, .inl (g 2, 4, .inr (.inr (.inr (.inr (fun _ => none)))))), (q7, .inl (g 0, 29, .inl (fun _ => 0))), (q8, .inl (g 1, k, .inr (.inl (fun _ => 0)))), (q9, .inl (g 0, k, .inl (fun _ => 0))), (q10, .inl (g 0, k, .inl (m_fil (1000 : Int32) (fun _ => 0) k))), (q11, .inr (1, [.null, .int 0, .int 0]))] : va_W)[i]?)) C0 hP hD hS (c_X1_init l D g q11) kc_X1_init ki_X1 (zN_wi hN) ks_X1_init rfl (by decide +kernel) [11] [0, 1, 2, 3, 4, 5, 6, 7, 8, 9, 10] rfl rfl ⟨by decide, by decide, by decide⟩ hl.1 rfl rfl (Nat.le_of_ble_eq_true rfl) ⟨(Nat.le_of_ble_eq_true rfl), (Nat.le_of_ble_eq_true rfl)⟩ rfl rfl ⟨by simp only [rm_X0_init]; omega, by simp only [rm_X0_init]; omega⟩ dX0_init_139 (fun vq11 H locs hw_139 hP hD hS => ?_)
    have hP : va_P D vwCl [(h0, .inr (0, [.ref q8, .ref q9, .ref q10, .ref q1, .ref q2, .ref q3, .ref q4, .ref q5, .ref q6, .ref q7, .int 0, .int 0, .int 0, .long 0, .int 0, .int 0, .long (-1), .long (-1)])), (q1, .inl (g 0, 4, .inl (fun _ => 0))), (q2, .inl (g 0, 4, .inl (fun _ => 0))), (q3, .inl (g 0, 400, .inl (fun _ => 0))), (q4, .inl (g 1, 400, .inr (.inl (fun _ => 0)))), (q5, .inl (g 1, 9, .inr (.inl (fun _ => 0)))), (q6, .inl (g 2, 4, .inr (.inr (.inr (.inr (fun _ => none)))))), (q7, .inl (g 0, 29, .inl (fun _ => 0))), (q8, .inl (g 1, k, .inr (.inl (fun _ => 0)))), (q9, .inl (g 0, k, .inl (fun _ => 0))), (q10, .inl (g 0, k, .inl (m_fil (1000 : Int32) (fun _ => 0) k))), (q11, .inr (1, [.ref vq11, .int 0, .int (-1)])), (vq11, .inl (g 0, 8, .inl (fun _ => 0)))] _ := hP
    have hD : va_D A [(h0, .inr (0, [.ref q8, .ref q9, .ref q10, .ref q1, .ref q2, .ref q3, .ref q4, .ref q5, .ref q6, .ref q7, .int 0, .int 0, .int 0, .long 0, .int 0, .int 0, .long (-1), .long (-1)])), (q1, .inl (g 0, 4, .inl (fun _ => 0))), (q2, .inl (g 0, 4, .inl (fun _ => 0))), (q3, .inl (g 0, 400, .inl (fun _ => 0))), (q4, .inl (g 1, 400, .inr (.inl (fun _ => 0)))), (q5, .inl (g 1, 9, .inr (.inl (fun _ => 0)))), (q6, .inl (g 2, 4, .inr (.inr (.inr (.inr (fun _ => none)))))), (q7, .inl (g 0, 29, .inl (fun _ => 0))), (q8, .inl (g 1, k, .inr (.inl (fun _ => 0)))), (q9, .inl (g 0, k, .inl (fun _ => 0))), (q10, .inl (g 0, k, .inl (m_fil (1000 : Int32) (fun _ => 0) k))), (q11, .inr (1, [.ref vq11, .int 0, .int (-1)])), (vq11, .inl (g 0, 8, .inl (fun _ => 0)))] := hD
    refine va_astq hx hb hK hP hD hS 6 2 11 1 (r := (RX1, TX1, 3)) (i := nI 0) rfl rfl rfl rfl (vp_in_nI (by decide) (by decide)) dX0_init_142 (fun H locs hP hD hS => ?_)
    have hP : va_P D vwCl [(h0, .inr (0, [.ref q8, .ref q9, .ref q10, .ref q1, .ref q2, .ref q3, .ref q4, .ref q5, .ref q6, .ref q7, .int 0, .int 0, .int 0, .long 0, .int 0, .int 0, .long (-1), .long (-1)])), (q1, .inl (g 0, 4, .inl (fun _ => 0))), (q2, .inl (g 0, 4, .inl (fun _ => 0))), (q3, .inl (g 0, 400, .inl (fun _ => 0))), (q4, .inl (g 1, 400, .inr (.inl (fun _ => 0)))), (q5, .inl (g 1, 9, .inr (.inl (fun _ => 0)))), (q6, .inl (g 2, 4, .inr (.inr (.inr (.inr (va_up (fun _ => none) 0 (some q11))))))), (q7, .inl (g 0, 29, .inl (fun _ => 0))), (q8, .inl (g 1, k, .inr (.inl (fun _ => 0)))), (q9, .inl (g 0, k, .inl (fun _ => 0))), (q10, .inl (g 0, k, .inl (m_fil (1000 : Int32) (fun _ => 0) k))), (q11, .inr (1, [.ref vq11, .int 0, .int (-1)])), (vq11, .inl (g 0, 8, .inl (fun _ => 0)))] _ := hP
    have hD : va_D A [(h0, .inr (0, [.ref q8, .ref q9, .ref q10, .ref q1, .ref q2, .ref q3, .ref q4, .ref q5, .ref q6, .ref q7, .int 0, .int 0, .int 0, .long 0, .int 0, .int 0, .long (-1), .long (-1)])), (q1, .inl (g 0, 4, .inl (fun _ => 0))), (q2, .inl (g 0, 4, .inl (fun _ => 0))), (q3, .inl (g 0, 400, .inl (fun _ => 0))), (q4, .inl (g 1, 400, .inr (.inl (fun _ => 0)))), (q5, .inl (g 1, 9, .inr (.inl (fun _ => 0)))), (q6, .inl (g 2, 4, .inr (.inr (.inr (.inr (va_up (fun _ => none) 0 (some q11))))))), (q7, .inl (g 0, 29, .inl (fun _ => 0))), (q8, .inl (g 1, k, .inr (.inl (fun _ => 0)))), (q9, .inl (g 0, k, .inl (fun _ => 0))), (q10, .inl (g 0, k, .inl (m_fil (1000 : Int32) (fun _ => 0) k))), (q11, .inr (1, [.ref vq11, .int 0, .int (-1)])), (vq11, .inl (g 0, 8, .inl (fun _ => 0)))] := hD
    refine lv_iinc (v := 1) (lv' := [(3, .int 1), (2, .int (nI k)), (0, .ref h0), (1, .int x)]) hx hb dX0_init_143 hl (k := 0) rfl (by decide) (by decide) rfl (fun ls hl => ?_)
    refine lv_goto (tgt := 125) hx hb dX0_init_146 (by decide) ?_
    refine lv_iload_n hx hb dX0_init_125 rfl (lv_at hl 0 rfl) ?_
    refine lv_iconst (v := 4) hx hb dX0_init_126 (by decide) ?_
    refine lv_icmp_ge (tgt := 149) hx hb dX0_init_127 (by decide) (fun c_127 => absurd c_127 (by decide)) (fun _ => ?_)
    refine lv_aload_n hx hb dX0_init_130 rfl (lv_at hl 2 rfl) ?_
    refine va_get (D := D) (ci := 0) (v := .ref q6) (C := RX0) (T := TX0) (N := 18) hx hb hts iw_X0 hown hK hP 0 rfl rfl 8 (by decide) (hts _ kf_X0_28) (fun _ h9 => h9) rfl dX0_init_131 ?_
    refine lv_iload_n hx hb dX0_init_134 rfl (lv_at hl 0 rfl) ?_
    refine va_new (ci := 1) (fs := [.null, .int 0, .int 0]) (C := RX1) (T := TX1) (N := 3) hx hb hts iw_X1 tyX1 tyok_X1 hown (hts _ kd_X0_26) (hts _ kt_X1) (hts _ ki_X1) hK hP hD hS hA rfl (fun j hj => by rcases (show j = 0 ∨ j = 1 ∨ j = 2 by omega) with rfl | rfl | rfl <;> rfl) (by simp only [rm_X0_init]; omega) (by simp only [rm_X0_init]; omega) dX0_init_135 (fun q12 H hP hD hS => ?_)
    have hP : va_P D vwCl [(h0, .inr (0, [.ref q8, .ref q9, .ref q10, .ref q1, .ref q2, .ref q3, .ref q4, .ref q5, .ref q6, .ref q7, .int 0, .int 0, .int 0, .long 0, .int 0, .int 0, .long (-1), .long (-1)])), (q1, .inl (g 0, 4, .inl (fun _ => 0))), (q2, .inl (g 0, 4, .inl (fun _ => 0))), (q3, .inl (g 0, 400, .inl (fun _ => 0))), (q4, .inl (g 1, 400, .inr (.inl (fun _ => 0)))), (q5, .inl (g 1, 9, .inr (.inl (fun _ => 0)))), (q6, .inl (g 2, 4, .inr (.inr (.inr (.inr (va_up (fun _ => none) 0 (some q11))))))), (q7, .inl (g 0, 29, .inl (fun _ => 0))), (q8, .inl (g 1, k, .inr (.inl (fun _ => 0)))), (q9, .inl (g 0, k, .inl (fun _ => 0))), (q10, .inl (g 0, k, .inl (m_fil (1000 : Int32) (fun _ => 0) k))), (q11, .inr (1, [.ref vq11, .int 0, .int (-1)])), (vq11, .inl (g 0, 8, .inl (fun _ => 0))), (q12, .inr (1, [.null, .int 0, .int 0]))] _ := hP
    have hD : va_D A [(h0, .inr (0, [.ref q8, .ref q9, .ref q10, .ref q1, .ref q2, .ref q3, .ref q4, .ref q5, .ref q6, .ref q7, .int 0, .int 0, .int 0, .long 0, .int 0, .int 0, .long (-1), .long (-1)])), (q1, .inl (g 0, 4, .inl (fun _ => 0))), (q2, .inl (g 0, 4, .inl (fun _ => 0))), (q3, .inl (g 0, 400, .inl (fun _ => 0))), (q4, .inl (g 1, 400, .inr (.inl (fun _ => 0)))), (q5, .inl (g 1, 9, .inr (.inl (fun _ => 0)))), (q6, .inl (g 2, 4, .inr (.inr (.inr (.inr (va_up (fun _ => none) 0 (some q11))))))), (q7, .inl (g 0, 29, .inl (fun _ => 0))), (q8, .inl (g 1, k, .inr (.inl (fun _ => 0)))), (q9, .inl (g 0, k, .inl (fun _ => 0))), (q10, .inl (g 0, k, .inl (m_fil (1000 : Int32) (fun _ => 0) k))), (q11, .inr (1, [.ref vq11, .int 0, .int (-1)])), (vq11, .inl (g 0, 8, .inl (fun _ => 0))), (q12, .inr (1, [.null, .int 0, .int 0]))] := hD
    refine lv_dup hx hb dX0_init_138 rfl ?_
    refine zk_xvN (rest := [.ref q12, .int 1, .ref q6]) (wr := [0, 1, 2, 3, 4, 5, 6, 7, 8, 9, 10, 11, 12].filterMap (fun i => ([(h0, .inr (0, [.ref q8, .ref q9, .ref q10, .ref q1, .ref q2, .ref q3, .ref q4, .ref q5, .ref q6, .ref q7, .int 0, .int 0, .int 0, .long 0, .int 0, .int 0, .long (-1), .long (-1)])), (q1, .inl (g 0, 4, .inl (fun _ => 0))), (q2, .inl (g 0, 4, .inl (fun _ => 0))), (q3, .inl (g 0, 400, .inl (fun _ => 0))), (q4, .inl (g 1, 400, .inr (.inl (fun _ => 0)))), (q5, .inl (g 1, 9, .inr (.inl (fun _ => 0)))), (q6, .inl (g 2, 4, .inr (.inr (.inr (.inr (va_up (fun _ => none) 0 (some q11))))))), (q7, .inl (g 0, 29, .inl (fun _ => 0))), (q8, .inl (g 1, k, .inr (.inl (fun _ => 0)))), (q9, .inl (g 0, k, .inl (fun _ => 0))), (q10, .inl (g 0, k, .inl (m_fil (1000 : Int32) (fun _ => 0) k))), (q11, .inr (1, [.ref vq11, .int 0, .int (-1)])), (vq11, .inl (g 0, 8, .inl (fun _ => 0))), (q12, .inr (1, [.null, .int 0, .int 0]))] : va_W)[i]?)) C0 hP hD hS (c_X1_init l D g q12) kc_X1_init ki_X1 (zN_wi hN) ks_X1_init rfl (by decide +kernel) [13] [0, 1, 2, 3, 4, 5, 6, 7, 8, 9, 10, 11, 12] rfl rfl ⟨by decide, by decide, by decide⟩ hl.1 rfl rfl (Nat.le_of_ble_eq_true rfl) ⟨(Nat.le_of_ble_eq_true rfl), (Nat.le_of_ble_eq_true rfl)⟩ rfl rfl ⟨by simp only [rm_X0_init]; omega, by simp only [rm_X0_init]; omega⟩ dX0_init_139 (fun vq12 H locs hw_139 hP hD hS => ?_)
    have hP : va_P D vwCl [(h0, .inr (0, [.ref q8, .ref q9, .ref q10, .ref q1, .ref q2, .ref q3, .ref q4, .ref q5, .ref q6, .ref q7, .int 0, .int 0, .int 0, .long 0, .int 0, .int 0, .long (-1), .long (-1)])), (q1, .inl (g 0, 4, .inl (fun _ => 0))), (q2, .inl (g 0, 4, .inl (fun _ => 0))), (q3, .inl (g 0, 400, .inl (fun _ => 0))), (q4, .inl (g 1, 400, .inr (.inl (fun _ => 0)))), (q5, .inl (g 1, 9, .inr (.inl (fun _ => 0)))), (q6, .inl (g 2, 4, .inr (.inr (.inr (.inr (va_up (fun _ => none) 0 (some q11))))))), (q7, .inl (g 0, 29, .inl (fun _ => 0))), (q8, .inl (g 1, k, .inr (.inl (fun _ => 0)))), (q9, .inl (g 0, k, .inl (fun _ => 0))), (q10, .inl (g 0, k, .inl (m_fil (1000 : Int32) (fun _ => 0) k))), (q11, .inr (1, [.ref vq11, .int 0, .int (-1)])), (vq11, .inl (g 0, 8, .inl (fun _ => 0))), (q12, .inr (1, [.ref vq12, .int 0, .int (-1)])), (vq12, .inl (g 0, 8, .inl (fun _ => 0)))] _ := hP
    have hD : va_D A [(h0, .inr (0, [.ref q8, .ref q9, .ref q10, .ref q1, .ref q2, .ref q3, .ref q4, .ref q5, .ref q6, .ref q7, .int 0, .int 0, .int 0, .long 0, .int 0, .int 0, .long (-1), .long (-1)])), (q1, .inl (g 0, 4, .inl (fun _ => 0))), (q2, .inl (g 0, 4, .inl (fun _ => 0))), (q3, .inl (g 0, 400, .inl (fun _ => 0))), (q4, .inl (g 1, 400, .inr (.inl (fun _ => 0)))), (q5, .inl (g 1, 9, .inr (.inl (fun _ => 0)))), (q6, .inl (g 2, 4, .inr (.inr (.inr (.inr (va_up (fun _ => none) 0 (some q11))))))), (q7, .inl (g 0, 29, .inl (fun _ => 0))), (q8, .inl (g 1, k, .inr (.inl (fun _ => 0)))), (q9, .inl (g 0, k, .inl (fun _ => 0))), (q10, .inl (g 0, k, .inl (m_fil (1000 : Int32) (fun _ => 0) k))), (q11, .inr (1, [.ref vq11, .int 0, .int (-1)])), (vq11, .inl (g 0, 8, .inl (fun _ => 0))), (q12, .inr (1, [.ref vq12, .int 0, .int (-1)])), (vq12, .inl (g 0, 8, .inl (fun _ => 0)))] := hD
    refine va_astq hx hb hK hP hD hS 6 2 13 1 (r := (RX1, TX1, 3)) (i := nI 1) rfl rfl rfl rfl (vp_in_nI (by decide) (by decide)) dX0_init_142 (fun H locs hP hD hS => ?_)
    have hP : va_P D vwCl [(h0, .inr (0, [.ref q8, .ref q9, .ref q10, .ref q1, .ref q2, .ref q3, .ref q4, .ref q5, .ref q6, .ref q7, .int 0, .int 0, .int 0, .long 0, .int 0, .int 0, .long (-1), .long (-1)])), (q1, .inl (g 0, 4, .inl (fun _ => 0))), (q2, .inl (g 0, 4, .inl (fun _ => 0))), (q3, .inl (g 0, 400, .inl (fun _ => 0))), (q4, .inl (g 1, 400, .inr (.inl (fun _ => 0)))), (q5, .inl (g 1, 9, .inr (.inl (fun _ => 0)))), (q6, .inl (g 2, 4, .inr (.inr (.inr (.inr (va_up (va_up (fun _ => none) 0 (some q11)) 1 (some q12))))))), (q7, .inl (g 0, 29, .inl (fun _ => 0))), (q8, .inl (g 1, k, .inr (.inl (fun _ => 0)))), (q9, .inl (g 0, k, .inl (fun _ => 0))), (q10, .inl (g 0, k, .inl (m_fil (1000 : Int32) (fun _ => 0) k))), (q11, .inr (1, [.ref vq11, .int 0, .int (-1)])), (vq11, .inl (g 0, 8, .inl (fun _ => 0))), (q12, .inr (1, [.ref vq12, .int 0, .int (-1)])), (vq12, .inl (g 0, 8, .inl (fun _ => 0)))] _ := hP
    have hD : va_D A [(h0, .inr (0, [.ref q8, .ref q9, .ref q10, .ref q1, .ref q2, .ref q3, .ref q4, .ref q5, .ref q6, .ref q7, .int 0, .int 0, .int 0, .long 0, .int 0, .int 0, .long (-1), .long (-1)])), (q1, .inl (g 0, 4, .inl (fun _ => 0))), (q2, .inl (g 0, 4, .inl (fun _ => 0))), (q3, .inl (g 0, 400, .inl (fun _ => 0))), (q4, .inl (g 1, 400, .inr (.inl (fun _ => 0)))), (q5, .inl (g 1, 9, .inr (.inl (fun _ => 0)))), (q6, .inl (g 2, 4, .inr (.inr (.inr (.inr (va_up (va_up (fun _ => none) 0 (some q11)) 1 (some q12))))))), (q7, .inl (g 0, 29, .inl (fun _ => 0))), (q8, .inl (g 1, k, .inr (.inl (fun _ => 0)))), (q9, .inl (g 0, k, .inl (fun _ => 0))), (q10, .inl (g 0, k, .inl (m_fil (1000 : Int32) (fun _ => 0) k))), (q11, .inr (1, [.ref vq11, .int 0, .int (-1)])), (vq11, .inl (g 0, 8, .inl (fun _ => 0))), (q12, .inr (1, [.ref vq12, .int 0, .int (-1)])), (vq12, .inl (g 0, 8, .inl (fun _ => 0)))] := hD
    refine lv_iinc (v := 2) (lv' := [(3, .int 2), (2, .int (nI k)), (0, .ref h0), (1, .int x)]) hx hb dX0_init_143 hl (k := 0) rfl (by decide) (by decide) rfl (fun ls hl => ?_)
    refine lv_goto (tgt := 125) hx hb dX0_init_146 (by decide) ?_
    refine lv_iload_n hx hb dX0_init_125 rfl (lv_at hl 0 rfl) ?_
    refine lv_iconst (v := 4) hx hb dX0_init_126 (by decide) ?_
    refine lv_icmp_ge (tgt := 149) hx hb dX0_init_127 (by decide) (fun c_127 => absurd c_127 (by decide)) (fun _ => ?_)
    refine lv_aload_n hx hb dX0_init_130 rfl (lv_at hl 2 rfl) ?_
    refine va_get (D := D) (ci := 0) (v := .ref q6) (C := RX0) (T := TX0) (N := 18) hx hb hts iw_X0 hown hK hP 0 rfl rfl 8 (by decide) (hts _ kf_X0_28) (fun _ h9 => h9) rfl dX0_init_131 ?_
    refine lv_iload_n hx hb dX0_init_134 rfl (lv_at hl 0 rfl) ?_
    refine va_new (ci := 1) (fs := [.null, .int 0, .int 0]) (C := RX1) (T := TX1) (N := 3) hx hb hts iw_X1 tyX1 tyok_X1 hown (hts _ kd_X0_26) (hts _ kt_X1) (hts _ ki_X1) hK hP hD hS hA rfl (fun j hj => by rcases (show j = 0 ∨ j = 1 ∨ j = 2 by omega) with rfl | rfl | rfl <;> rfl) (by simp only [rm_X0_init]; omega) (by simp only [rm_X0_init]; omega) dX0_init_135 (fun q13 H hP hD hS => ?_)
    have hP : va_P D vwCl [(h0, .inr (0, [.ref q8, .ref q9, .ref q10, .ref q1, .ref q2, .ref q3, .ref q4, .ref q5, .ref q6, .ref q7, .int 0, .int 0, .int 0, .long 0, .int 0, .int 0, .long (-1), .long (-1)])), (q1, .inl (g 0, 4, .inl (fun _ => 0))), (q2, .inl (g 0, 4, .inl (fun _ => 0))), (q3, .inl (g 0, 400, .inl (fun _ => 0))), (q4, .inl (g 1, 400, .inr (.inl (fun _ => 0)))), (q5, .inl (g 1, 9, .inr (.inl (fun _ => 0)))), (q6, .inl (g 2, 4, .inr (.inr (.inr (.inr (va_up (va_up (fun _ => none) 0 (some q11)) 1 (some q12))))))), (q7, .inl (g 0, 29, .inl (fun _ => 0))), (q8, .inl (g 1, k, .inr (.inl (fun _ => 0)))), (q9, .inl (g 0, k, .inl (fun _ => 0))), (q10, .inl (g 0, k, .inl (m_fil (1000 : Int32) (fun _ => 0) k))), (q11, .inr (1, [.ref vq11, .int 0, .int (-1)])), (vq11, .inl (g 0, 8, .inl (fun _ => 0))), (q12, .inr (1, [.ref vq12, .int 0, .int (-1)])), (vq12, .inl (g 0, 8, .inl (fun _ => 0))), (q13, .inr (1, [.null, .int 0, .int 0]))] _ := hP
    have hD : va_D A [(h0, .inr (0, [.ref q8, .ref q9, .ref q10, .ref q1, .ref q2, .ref q3, .ref q4, .ref q5, .ref q6, .ref q7, .int 0, .int 0, .int 0, .long 0, .int 0, .int 0, .long (-1), .long (-1)])), (q1, .inl (g 0, 4, .inl (fun _ => 0))), (q2, .inl (g 0, 4, .inl (fun _ => 0))), (q3, .inl (g 0, 400, .inl (fun _ => 0))), (q4, .inl (g 1, 400, .inr (.inl (fun _ => 0)))), (q5, .inl (g 1, 9, .inr (.inl (fun _ => 0)))), (q6, .inl (g 2, 4, .inr (.inr (.inr (.inr (va_up (va_up (fun _ => none) 0 (some q11)) 1 (some q12))))))), (q7, .inl (g 0, 29, .inl (fun _ => 0))), (q8, .inl (g 1, k, .inr (.inl (fun _ => 0)))), (q9, .inl (g 0, k, .inl (fun _ => 0))), (q10, .inl (g 0, k, .inl (m_fil (1000 : Int32) (fun _ => 0) k))), (q11, .inr (1, [.ref vq11, .int 0, .int (-1)])), (vq11, .inl (g 0, 8, .inl (fun _ => 0))), (q12, .inr (1, [.ref vq12, .int 0, .int (-1)])), (vq12, .inl (g 0, 8, .inl (fun _ => 0))), (q13, .inr (1, [.null, .int 0, .int 0]))] := hD
    refine lv_dup hx hb dX0_init_138 rfl ?_
    refine zk_xvN (rest := [.ref q13, .int 2, .ref q6]) (wr := [0, 1, 2, 3, 4, 5, 6, 7, 8, 9, 10, 11, 12, 13, 14].filterMap (fun i => ([(h0, .inr (0, [.ref q8, .ref q9, .ref q10, .ref q1, .ref q2, .ref q3, .ref q4, .ref q5, .ref q6, .ref q7, .int 0, .int 0, .int 0, .long 0, .int 0, .int 0, .long (-1), .long (-1)])), (q1, .inl (g 0, 4, .inl (fun _ => 0))), (q2, .inl (g 0, 4, .inl (fun _ => 0))), (q3, .inl (g 0, 400, .inl (fun _ => 0))), (q4, .inl (g 1, 400, .inr (.inl (fun _ => 0)))), (q5, .inl (g 1, 9, .inr (.inl (fun _ => 0)))), (q6, .inl (g 2, 4, .inr (.inr (.inr (.inr (va_up (va_up (fun _ => none) 0 (some q11)) 1 (some q12))))))), (q7, .inl (g 0, 29, .inl (fun _ => 0))), (q8, .inl (g 1, k, .inr (.inl (fun _ => 0)))), (q9, .inl (g 0, k, .inl (fun _ => 0))), (q10, .inl (g 0, k, .inl (m_fil (1000 : Int32) (fun _ => 0) k))), (q11, .inr (1, [.ref vq11, .int 0, .int (-1)])), (vq11, .inl (g 0, 8, .inl (fun _ => 0))), (q12, .inr (1, [.ref vq12, .int 0, .int (-1)])), (vq12, .inl (g 0, 8, .inl (fun _ => 0))), (q13, .inr (1, [.null, .int 0, .int 0]))] : va_W)[i]?)) C0 hP hD hS (c_X1_init l D g q13) kc_X1_init ki_X1 (zN_wi hN) ks_X1_init rfl (by decide +kernel) [15] [0, 1, 2, 3, 4, 5, 6, 7, 8, 9, 10, 11, 12, 13, 14] rfl rfl ⟨by decide, by decide, by decide⟩ hl.1 rfl rfl (Nat.le_of_ble_eq_true rfl) ⟨(Nat.le_of_ble_eq_true rfl), (Nat.le_of_ble_eq_true rfl)⟩ rfl rfl ⟨by simp only [rm_X0_init]; omega, by simp only [rm_X0_init]; omega⟩ dX0_init_139 (fun vq13 H locs hw_139 hP hD hS => ?_)
    have hP : va_P D vwCl [(h0, .inr (0, [.ref q8, .ref q9, .ref q10, .ref q1, .ref q2, .ref q3, .ref q4, .ref q5, .ref q6, .ref q7, .int 0, .int 0, .int 0, .long 0, .int 0, .int 0, .long (-1), .long (-1)])), (q1, .inl (g 0, 4, .inl (fun _ => 0))), (q2, .inl (g 0, 4, .inl (fun _ => 0))), (q3, .inl (g 0, 400, .inl (fun _ => 0))), (q4, .inl (g 1, 400, .inr (.inl (fun _ => 0)))), (q5, .inl (g 1, 9, .inr (.inl (fun _ => 0)))), (q6, .inl (g 2, 4, .inr (.inr (.inr (.inr (va_up (va_up (fun _ => none) 0 (some q11)) 1 (some q12))))))), (q7, .inl (g 0, 29, .inl (fun _ => 0))), (q8, .inl (g 1, k, .inr (.inl (fun _ => 0)))), (q9, .inl (g 0, k, .inl (fun _ => 0))), (q10, .inl (g 0, k, .inl (m_fil (1000 : Int32) (fun _ => 0) k))), (q11, .inr (1, [.ref vq11, .int 0, .int (-1)])), (vq11, .inl (g 0, 8, .inl (fun _ => 0))), (q12, .inr (1, [.ref vq12, .int 0, .int (-1)])), (vq12, .inl (g 0, 8, .inl (fun _ => 0))), (q13, .inr (1, [.ref vq13, .int 0, .int (-1)])), (vq13, .inl (g 0, 8, .inl (fun _ => 0)))] _ := hP
    have hD : va_D A [(h0, .inr (0, [.ref q8, .ref q9, .ref q10, .ref q1, .ref q2, .ref q3, .ref q4, .ref q5, .ref q6, .ref q7, .int 0, .int 0, .int 0, .long 0, .int 0, .int 0, .long (-1), .long (-1)])), (q1, .inl (g 0, 4, .inl (fun _ => 0))), (q2, .inl (g 0, 4, .inl (fun _ => 0))), (q3, .inl (g 0, 400, .inl (fun _ => 0))), (q4, .inl (g 1, 400, .inr (.inl (fun _ => 0)))), (q5, .inl (g 1, 9, .inr (.inl (fun _ => 0)))), (q6, .inl (g 2, 4, .inr (.inr (.inr (.inr (va_up (va_up (fun _ => none) 0 (some q11)) 1 (some q12))))))), (q7, .inl (g 0, 29, .inl (fun _ => 0))), (q8, .inl (g 1, k, .inr (.inl (fun _ => 0)))), (q9, .inl (g 0, k, .inl (fun _ => 0))), (q10, .inl (g 0, k, .inl (m_fil (1000 : Int32) (fun _ => 0) k))), (q11, .inr (1, [.ref vq11, .int 0, .int (-1)])), (vq11, .inl (g 0, 8, .inl (fun _ => 0))), (q12, .inr (1, [.ref vq12, .int 0, .int (-1)])), (vq12, .inl (g 0, 8, .inl (fun _ => 0))), (q13, .inr (1, [.ref vq13, .int 0, .int (-1)])), (vq13, .inl (g 0, 8, .inl (fun _ => 0)))] := hD
    refine va_astq hx hb hK hP hD hS 6 2 15 1 (r := (RX1, TX1, 3)) (i := nI 2) rfl rfl rfl rfl (vp_in_nI (by decide) (by decide)) dX0_init_142 (fun H locs hP hD hS => ?_)
    have hP : va_P D vwCl [(h0, .inr (0, [.ref q8, .ref q9, .ref q10, .ref q1, .ref q2, .ref q3, .ref q4, .ref q5, .ref q6, .ref q7, .int 0, .int 0, .int 0, .long 0, .int 0, .int 0, .long (-1), .long (-1)])), (q1, .inl (g 0, 4, .inl (fun _ => 0))), (q2, .inl (g 0, 4, .inl (fun _ => 0))), (q3, .inl (g 0, 400, .inl (fun _ => 0))), (q4, .inl (g 1, 400, .inr (.inl (fun _ => 0)))), (q5, .inl (g 1, 9, .inr (.inl (fun _ => 0)))), (q6, .inl (g 2, 4, .inr (.inr (.inr (.inr (va_up (va_up (va_up (fun _ => none) 0 (some q11)) 1 (some q12)) 2 (some q13))))))), (q7, .inl (g 0, 29, .inl (fun _ => 0))), (q8, .inl (g 1, k, .inr (.inl (fun _ => 0)))), (q9, .inl (g 0, k, .inl (fun _ => 0))), (q10, .inl (g 0, k, .inl (m_fil (1000 : Int32) (fun _ => 0) k))), (q11, .inr (1, [.ref vq11, .int 0, .int (-1)])), (vq11, .inl (g 0, 8, .inl (fun _ => 0))), (q12, .inr (1, [.ref vq12, .int 0, .int (-1)])), (vq12, .inl (g 0, 8, .inl (fun _ => 0))), (q13, .inr (1, [.ref vq13, .int 0, .int (-1)])), (vq13, .inl (g 0, 8, .inl (fun _ => 0)))] _ := hP
    have hD : va_D A [(h0, .inr (0, [.ref q8, .ref q9, .ref q10, .ref q1, .ref q2, .ref q3, .ref q4, .ref q5, .ref q6, .ref q7, .int 0, .int 0, .int 0, .long 0, .int 0, .int 0, .long (-1), .long (-1)])), (q1, .inl (g 0, 4, .inl (fun _ => 0))), (q2, .inl (g 0, 4, .inl (fun _ => 0))), (q3, .inl (g 0, 400, .inl (fun _ => 0))), (q4, .inl (g 1, 400, .inr (.inl (fun _ => 0)))), (q5, .inl (g 1, 9, .inr (.inl (fun _ => 0)))), (q6, .inl (g 2, 4, .inr (.inr (.inr (.inr (va_up (va_up (va_up (fun _ => none) 0 (some q11)) 1 (some q12)) 2 (some q13))))))), (q7, .inl (g 0, 29, .inl (fun _ => 0))), (q8, .inl (g 1, k, .inr (.inl (fun _ => 0)))), (q9, .inl (g 0, k, .inl (fun _ => 0))), (q10, .inl (g 0, k, .inl (m_fil (1000 : Int32) (fun _ => 0) k))), (q11, .inr (1, [.ref vq11, .int 0, .int (-1)])), (vq11, .inl (g 0, 8, .inl (fun _ => 0))), (q12, .inr (1, [.ref vq12, .int 0, .int (-1)])), (vq12, .inl (g 0, 8, .inl (fun _ => 0))), (q13, .inr (1, [.ref vq13, .int 0, .int (-1)])), (vq13, .inl (g 0, 8, .inl (fun _ => 0)))] := hD
    refine lv_iinc (v := 3) (lv' := [(3, .int 3), (2, .int (nI k)), (0, .ref h0), (1, .int x)]) hx hb dX0_init_143 hl (k := 0) rfl (by decide) (by decide) rfl (fun ls hl => ?_)
    refine lv_goto (tgt := 125) hx hb dX0_init_146 (by decide) ?_
    refine lv_iload_n hx hb dX0_init_125 rfl (lv_at hl 0 rfl) ?_
    refine lv_iconst (v := 4) hx hb dX0_init_126 (by decide) ?_
    refine lv_icmp_ge (tgt := 149) hx hb dX0_init_127 (by decide) (fun c_127 => absurd c_127 (by decide)) (fun _ => ?_)
    refine lv_aload_n hx hb dX0_init_130 rfl (lv_at hl 2 rfl) ?_
    refine va_get (D := D) (ci := 0) (v := .ref q6) (C := RX0) (T := TX0) (N := 18) hx hb hts iw_X0 hown hK hP 0 rfl rfl 8 (by decide) (hts _ kf_X0_28) (fun _ h9 => h9) rfl dX0_init_131 ?_
    refine lv_iload_n hx hb dX0_init_134 rfl (lv_at hl 0 rfl) ?_
    refine va_new (ci := 1) (fs := [.null, .int 0, .int 0]) (C := RX1) (T := TX1) (N := 3) hx hb hts iw_X1 tyX1 tyok_X1 hown (hts _ kd_X0_26) (hts _ kt_X1) (hts _ ki_X1) hK hP hD hS hA rfl (fun j hj => by rcases (show j = 0 ∨ j = 1 ∨ j = 2 by omega) with rfl | rfl | rfl <;> rfl) (by simp only [rm_X0_init]; omega) (by simp only [rm_X0_init]; omega) dX0_init_135 (fun q14 H hP hD hS => ?_)
    have hP : va_P D vwCl [(h0, .inr (0, [.ref q8, .ref q9, .ref q10, .ref q1, .ref q2, .ref q3, .ref q4, .ref q5, .ref q6, .ref q7, .int 0, .int 0, .int 0, .long 0, .int 0, .int 0, .long (-1), .long (-1)])), (q1, .inl (g 0, 4, .inl (fun _ => 0))), (q2, .inl (g 0, 4, .inl (fun _ => 0))), (q3, .inl (g 0, 400, .inl (fun _ => 0))), (q4, .inl (g 1, 400, .inr (.inl (fun _ => 0)))), (q5, .inl (g 1, 9, .inr (.inl (fun _ => 0)))), (q6, .inl (g 2, 4, .inr (.inr (.inr (.inr (va_up (va_up (va_up (fun _ => none) 0 (some q11)) 1 (some q12)) 2 (some q13))))))), (q7, .inl (g 0, 29, .inl (fun _ => 0))), (q8, .inl (g 1, k, .inr (.inl (fun _ => 0)))), (q9, .inl (g 0, k, .inl (fun _ => 0))), (q10, .inl (g 0, k, .inl (m_fil (1000 : Int32) (fun _ => 0) k))), (q11, .inr (1, [.ref vq11, .int 0, .int (-1)])), (vq11, .inl (g 0, 8, .inl (fun _ => 0))), (q12, .inr (1, [.ref vq12, .int 0, .int (-1)])), (vq12, .inl (g 0, 8, .inl (fun _ => 0))), (q13, .inr (1, [.ref vq13, .int 0, .int (-1)])), (vq13, .inl (g 0, 8, .inl (fun _ => 0))), (q14, .inr (1, [.null, .int 0, .int 0]))] _ := hP
    have hD : va_D A [(h0, .inr (0, [.ref q8, .ref q9, .ref q10, .ref q1, .ref q2, .ref q3, .ref q4, .ref q5, .ref q6, .ref q7, .int 0, .int 0, .int 0, .long 0, .int 0, .int 0, .long (-1), .long (-1)])), (q1, .inl (g 0, 4, .inl (fun _ => 0))), (q2, .inl (g 0, 4, .inl (fun _ => 0))), (q3, .inl (g 0, 400, .inl (fun _ => 0))), (q4, .inl (g 1, 400, .inr (.inl (fun _ => 0)))), (q5, .inl (g 1, 9, .inr (.inl (fun _ => 0)))), (q6, .inl (g 2, 4, .inr (.inr (.inr (.inr (va_up (va_up (va_up (fun _ => none) 0 (some q11)) 1 (some q12)) 2 (some q13))))))), (q7, .inl (g 0, 29, .inl (fun _ => 0))), (q8, .inl (g 1, k, .inr (.inl (fun _ => 0)))), (q9, .inl (g 0, k, .inl (fun _ => 0))), (q10, .inl (g 0, k, .inl (m_fil (1000 : Int32) (fun _ => 0) k))), (q11, .inr (1, [.ref vq11, .int 0, .int (-1)])), (vq11, .inl (g 0, 8, .inl (fun _ => 0))), (q12, .inr (1, [.ref vq12, .int 0, .int (-1)])), (vq12, .inl (g 0, 8, .inl (fun _ => 0))), (q13, .inr (1, [.ref vq13, .int 0, .int (-1)])), (vq13, .inl (g 0, 8, .inl (fun _ => 0))), (q14, .inr (1, [.null, .int 0, .int 0]))] := hD
    refine lv_dup hx hb dX0_init_138 rfl ?_
    refine zk_xvN (rest := [.ref q14, .int 3, .ref q6]) (wr := [0, 1, 2, 3, 4, 5, 6, 7, 8, 9, 10, 11, 12, 13, 14, 15, 16].filterMap (fun i => ([(h0, .inr (0, [.ref q8, .ref q9, .ref q10, .ref q1, .ref q2, .ref q3, .ref q4, .ref q5, .ref q6, .ref q7, .int 0, .int 0, .int 0, .long 0, .int 0, .int 0, .long (-1), .long (-1)])), (q1, .inl (g 0, 4, .inl (fun _ => 0))), (q2, .inl (g 0, 4, .inl (fun _ => 0))), (q3, .inl (g 0, 400, .inl (fun _ => 0))), (q4, .inl (g 1, 400, .inr (.inl (fun _ => 0)))), (q5, .inl (g 1, 9, .inr (.inl (fun _ => 0)))), (q6, .inl (g 2, 4, .inr (.inr (.inr (.inr (va_up (va_up (va_up (fun _ => none) 0 (some q11)) 1 (some q12)) 2 (some q13))))))), (q7, .inl (g 0, 29, .inl (fun _ => 0))), (q8, .inl (g 1, k, .inr (.inl (fun _ => 0)))), (q9, .inl (g 0, k, .inl (fun _ => 0))), (q10, .inl (g 0, k, .inl (m_fil (1000 : Int32) (fun _ => 0) k))), (q11, .inr (1, [.ref vq11, .int 0, .int (-1)])), (vq11, .inl (g 0, 8, .inl (fun _ => 0))), (q12, .inr (1, [.ref vq12, .int 0, .int (-1)])), (vq12, .inl (g 0, 8, .inl (fun _ => 0))), (q13, .inr (1, [.ref vq13, .int 0, .int (-1)])), (vq13, .inl (g 0, 8, .inl (fun _ => 0))), (q14, .inr (1, [.null, .int 0, .int 0]))] : va_W)[i]?)) C0 hP hD hS (c_X1_init l D g q14) kc_X1_init ki_X1 (zN_wi hN) ks_X1_init rfl (by decide +kernel) [17] [0, 1, 2, 3, 4, 5, 6, 7, 8, 9, 10, 11, 12, 13, 14, 15, 16] rfl rfl ⟨by decide, by decide, by decide⟩ hl.1 rfl rfl (Nat.le_of_ble_eq_true rfl) ⟨(Nat.le_of_ble_eq_true rfl), (Nat.le_of_ble_eq_true rfl)⟩ rfl rfl ⟨by simp only [rm_X0_init]; omega, by simp only [rm_X0_init]; omega⟩ dX0_init_139 (fun vq14 H locs hw_139 hP hD hS => ?_)
    have hP : va_P D vwCl [(h0, .inr (0, [.ref q8, .ref q9, .ref q10, .ref q1, .ref q2, .ref q3, .ref q4, .ref q5, .ref q6, .ref q7, .int 0, .int 0, .int 0, .long 0, .int 0, .int 0, .long (-1), .long (-1)])), (q1, .inl (g 0, 4, .inl (fun _ => 0))), (q2, .inl (g 0, 4, .inl (fun _ => 0))), (q3, .inl (g 0, 400, .inl (fun _ => 0))), (q4, .inl (g 1, 400, .inr (.inl (fun _ => 0)))), (q5, .inl (g 1, 9, .inr (.inl (fun _ => 0)))), (q6, .inl (g 2, 4, .inr (.inr (.inr (.inr (va_up (va_up (va_up (fun _ => none) 0 (some q11)) 1 (some q12)) 2 (some q13))))))), (q7, .inl (g 0, 29, .inl (fun _ => 0))), (q8, .inl (g 1, k, .inr (.inl (fun _ => 0)))), (q9, .inl (g 0, k, .inl (fun _ => 0))), (q10, .inl (g 0, k, .inl (m_fil (1000 : Int32) (fun _ => 0) k))), (q11, .inr (1, [.ref vq11, .int 0, .int (-1)])), (vq11, .inl (g 0, 8, .inl (fun _ => 0))), (q12, .inr (1, [.ref vq12, .int 0, .int (-1)])), (vq12, .inl (g 0, 8, .inl (fun _ => 0))), (q13, .inr (1, [.ref vq13, .int 0, .int (-1)])), (vq13, .inl (g 0, 8, .inl (fun _ => 0))), (q14, .inr (1, [.ref vq14, .int 0, .int (-1)])), (vq14, .inl (g 0, 8, .inl (fun _ => 0)))] _ := hP
    have hD : va_D A [(h0, .inr (0, [.ref q8, .ref q9, .ref q10, .ref q1, .ref q2, .ref q3, .ref q4, .ref q5, .ref q6, .ref q7, .int 0, .int 0, .int 0, .long 0, .int 0, .int 0, .long (-1), .long (-1)])), (q1, .inl (g 0, 4, .inl (fun _ => 0))), (q2, .inl (g 0, 4, .inl (fun _ => 0))), (q3, .inl (g 0, 400, .inl (fun _ => 0))), (q4, .inl (g 1, 400, .inr (.inl (fun _ => 0)))), (q5, .inl (g 1, 9, .inr (.inl (fun _ => 0)))), (q6, .inl (g 2, 4, .inr (.inr (.inr (.inr (va_up (va_up (va_up (fun _ => none) 0 (some q11)) 1 (some q12)) 2 (some q13))))))), (q7, .inl (g 0, 29, .inl (fun _ => 0))), (q8, .inl (g 1, k, .inr (.inl (fun _ => 0)))), (q9, .inl (g 0, k, .inl (fun _ => 0))), (q10, .inl (g 0, k, .inl (m_fil (1000 : Int32) (fun _ => 0) k))), (q11, .inr (1, [.ref vq11, .int 0, .int (-1)])), (vq11, .inl (g 0, 8, .inl (fun _ => 0))), (q12, .inr (1, [.ref vq12, .int 0, .int (-1)])), (vq12, .inl (g 0, 8, .inl (fun _ => 0))), (q13, .inr (1, [.ref vq13, .int 0, .int (-1)])), (vq13, .inl (g 0, 8, .inl (fun _ => 0))), (q14, .inr (1, [.ref vq14, .int 0, .int (-1)])), (vq14, .inl (g 0, 8, .inl (fun _ => 0)))] := hD
    refine va_astq hx hb hK hP hD hS 6 2 17 1 (r := (RX1, TX1, 3)) (i := nI 3) rfl rfl rfl rfl (vp_in_nI (by decide) (by decide)) dX0_init_142 (fun H locs hP hD hS => ?_)
    have hP : va_P D vwCl [(h0, .inr (0, [.ref q8, .ref q9, .ref q10, .ref q1, .ref q2, .ref q3, .ref q4, .ref q5, .ref q6, .ref q7, .int 0, .int 0, .int 0, .long 0, .int 0, .int 0, .long (-1), .long (-1)])), (q1, .inl (g 0, 4, .inl (fun _ => 0))), (q2, .inl (g 0, 4, .inl (fun _ => 0))), (q3, .inl (g 0, 400, .inl (fun _ => 0))), (q4, .inl (g 1, 400, .inr (.inl (fun _ => 0)))), (q5, .inl (g 1, 9, .inr (.inl (fun _ => 0)))), (q6, .inl (g 2, 4, .inr (.inr (.inr (.inr (va_up (va_up (va_up (va_up (fun _ => none) 0 (some q11)) 1 (some q12)) 2 (some q13)) 3 (some q14))))))), (q7, .inl (g 0, 29, .inl (fun _ => 0))), (q8, .inl (g 1, k, .inr (.inl (fun _ => 0)))), (q9, .inl (g 0, k, .inl (fun _ => 0))), (q10, .inl (g 0, k, .inl (m_fil (1000 : Int32) (fun _ => 0) k))), (q11, .inr (1, [.ref vq11, .int 0, .int (-1)])), (vq11, .inl (g 0, 8, .inl (fun _ => 0))), (q12, .inr (1, [.ref vq12, .int 0, .int (-1)])), (vq12, .inl (g 0, 8, .inl (fun _ => 0))), (q13, .inr (1, [.ref vq13, .int 0, .int (-1)])), (vq13, .inl (g 0, 8, .inl (fun _ => 0))), (q14, .inr (1, [.ref vq14, .int 0, .int (-1)])), (vq14, .inl (g 0, 8, .inl (fun _ => 0)))] _ := hP
    have hD : va_D A [(h0, .inr (0, [.ref q8, .ref q9, .ref q10, .ref q1, .ref q2, .ref q3, .ref q4, .ref q5, .ref q6, .ref q7, .int 0, .int 0, .int 0, .long 0, .int 0, .int 0, .long (-1), .long (-1)])), (q1, .inl (g 0, 4, .inl (fun _ => 0))), (q2, .inl (g 0, 4, .inl (fun _ => 0))), (q3, .inl (g 0, 400, .inl (fun _ => 0))), (q4, .inl (g 1, 400, .inr (.inl (fun _ => 0)))), (q5, .inl (g 1, 9, .inr (.inl (fun _ => 0)))), (q6, .inl (g 2, 4, .inr (.inr (.inr (.inr (va_up (va_up (va_up (va_up (fun _ => none) 0 (some q11)) 1 (some q12)) 2 (some q13)) 3 (some q14))))))), (q7, .inl (g 0, 29, .inl (fun _ => 0))), (q8, .inl (g 1, k, .inr (.inl (fun _ => 0)))), (q9, .inl (g 0, k, .inl (fun _ => 0))), (q10, .inl (g 0, k, .inl (m_fil (1000 : Int32) (fun _ => 0) k))), (q11, .inr (1, [.ref vq11, .int 0, .int (-1)])), (vq11, .inl (g 0, 8, .inl (fun _ => 0))), (q12, .inr (1, [.ref vq12, .int 0, .int (-1)])), (vq12, .inl (g 0, 8, .inl (fun _ => 0))), (q13, .inr (1, [.ref vq13, .int 0, .int (-1)])), (vq13, .inl (g 0, 8, .inl (fun _ => 0))), (q14, .inr (1, [.ref vq14, .int 0, .int (-1)])), (vq14, .inl (g 0, 8, .inl (fun _ => 0)))] := hD
    refine lv_iinc (v := 4) (lv' := [(3, .int 4), (2, .int (nI k)), (0, .ref h0), (1, .int x)]) hx hb dX0_init_143 hl (k := 0) rfl (by decide) (by decide) rfl (fun ls hl => ?_)
    refine lv_goto (tgt := 125) hx hb dX0_init_146 (by decide) ?_
    refine lv_iload_n hx hb dX0_init_125 rfl (lv_at hl 0 rfl) ?_
    refine lv_iconst (v := 4) hx hb dX0_init_126 (by decide) ?_
    refine lv_icmp_ge (tgt := 149) hx hb dX0_init_127 (by decide) (fun _ => ?_) (fun c_127 => absurd (by decide) c_127)
    have hP := hP.sub (ws' := [(h0, .inr (0, [.ref q8, .ref q9, .ref q10, .ref q1, .ref q2, .ref q3, .ref q4, .ref q5, .ref q6, .ref q7, .int 0, .int 0, .int 0, .long 0, .int 0, .int 0, .long (-1), .long (-1)])), (q8, .inl (g 1, k, .inr (.inl (fun _ => 0)))), (q9, .inl (g 0, k, .inl (fun _ => 0))), (q10, .inl (g 0, k, .inl (m_fil (1000 : Int32) (fun _ => 0) k))), (q1, .inl (g 0, 4, .inl (fun _ => 0))), (q2, .inl (g 0, 4, .inl (fun _ => 0))), (q3, .inl (g 0, 400, .inl (fun _ => 0))), (q4, .inl (g 1, 400, .inr (.inl (fun _ => 0)))), (q5, .inl (g 1, 9, .inr (.inl (fun _ => 0)))), (q6, .inl (g 2, 4, .inr (.inr (.inr (.inr (va_up (va_up (va_up (va_up (fun _ => none) 0 (some q11)) 1 (some q12)) 2 (some q13)) 3 (some q14))))))), (q7, .inl (g 0, 29, .inl (fun _ => 0))), (q11, .inr (1, [.ref vq11, .int 0, .int (-1)])), (q12, .inr (1, [.ref vq12, .int 0, .int (-1)])), (q13, .inr (1, [.ref vq13, .int 0, .int (-1)])), (q14, .inr (1, [.ref vq14, .int 0, .int (-1)])), (vq11, .inl (g 0, 8, .inl (fun _ => 0))), (vq12, .inl (g 0, 8, .inl (fun _ => 0))), (vq13, .inl (g 0, 8, .inl (fun _ => 0))), (vq14, .inl (g 0, 8, .inl (fun _ => 0)))]) [0, 8, 9, 10, 1, 2, 3, 4, 5, 6, 7, 11, 13, 15, 17, 12, 14, 16, 18] rfl
    have hD := hD.sub (ws' := [(h0, .inr (0, [.ref q8, .ref q9, .ref q10, .ref q1, .ref q2, .ref q3, .ref q4, .ref q5, .ref q6, .ref q7, .int 0, .int 0, .int 0, .long 0, .int 0, .int 0, .long (-1), .long (-1)])), (q8, .inl (g 1, k, .inr (.inl (fun _ => 0)))), (q9, .inl (g 0, k, .inl (fun _ => 0))), (q10, .inl (g 0, k, .inl (m_fil (1000 : Int32) (fun _ => 0) k))), (q1, .inl (g 0, 4, .inl (fun _ => 0))), (q2, .inl (g 0, 4, .inl (fun _ => 0))), (q3, .inl (g 0, 400, .inl (fun _ => 0))), (q4, .inl (g 1, 400, .inr (.inl (fun _ => 0)))), (q5, .inl (g 1, 9, .inr (.inl (fun _ => 0)))), (q6, .inl (g 2, 4, .inr (.inr (.inr (.inr (va_up (va_up (va_up (va_up (fun _ => none) 0 (some q11)) 1 (some q12)) 2 (some q13)) 3 (some q14))))))), (q7, .inl (g 0, 29, .inl (fun _ => 0))), (q11, .inr (1, [.ref vq11, .int 0, .int (-1)])), (q12, .inr (1, [.ref vq12, .int 0, .int (-1)])), (q13, .inr (1, [.ref vq13, .int 0, .int (-1)])), (q14, .inr (1, [.ref vq14, .int 0, .int (-1)])), (vq11, .inl (g 0, 8, .inl (fun _ => 0))), (vq12, .inl (g 0, 8, .inl (fun _ => 0))), (vq13, .inl (g 0, 8, .inl (fun _ => 0))), (vq14, .inl (g 0, 8, .inl (fun _ => 0)))]) [0, 8, 9, 10, 1, 2, 3, 4, 5, 6, 7, 11, 13, 15, 17, 12, 14, 16, 18] (by decide) rfl
    have hP := zp_set (k := 9) (y := (g 2, 4, .inr (.inr (.inr (.inr (fun k => some ((fun i => ([h0, q8, q9, q10, q1, q2, q3, q4, q5, q6, q7, q11, q12, q13, q14, vq11, vq12, vq13, vq14] : List Nat).getD i 0) (11 + k)))))))) hP rfl (zq_cong (fun k hk => by rcases zw4 hk with rfl | rfl | rfl | rfl <;> rfl))
    have hD := zd_set (k := 9) (y := .inl (g 2, 4, .inr (.inr (.inr (.inr (fun k => some ((fun i => ([h0, q8, q9, q10, q1, q2, q3, q4, q5, q6, q7, q11, q12, q13, q14, vq11, vq12, vq13, vq14] : List Nat).getD i 0) (11 + k)))))))) hD rfl
    have hP : va_P D vwCl (wL g (fun i => ([h0, q8, q9, q10, q1, q2, q3, q4, q5, q6, q7, q11, q12, q13, q14, vq11, vq12, vq13, vq14] : List Nat).getD i 0) k (m_a0 k) m_b0 (fun _ _ => 0)) _ := hP
    have hD : va_D A (wL g (fun i => ([h0, q8, q9, q10, q1, q2, q3, q4, q5, q6, q7, q11, q12, q13, q14, vq11, vq12, vq13, vq14] : List Nat).getD i 0) k (m_a0 k) m_b0 (fun _ _ => 0)) := hD
    rw [← hkx] at hP hD
    exact hret (fun i => ([h0, q8, q9, q10, q1, q2, q3, q4, q5, q6, q7, q11, q12, q13, q14, vq11, vq12, vq13, vq14] : List Nat).getD i 0) _ _ _ _ _ _ rfl hP hD hS (by omega) (by omega) dX0_init_149
  · -- on at 83
    have c_83 := zb_t c_83
    refine lv_iload_n hx hb dX0_init_86 rfl (lv_at hl 1 rfl) ?_
    refine lv_goto (tgt := 91) hx hb dX0_init_87 (by decide) ?_
    obtain ⟨k, hk, hkx, ekx⟩ := m_n_k c_83
    rw [ekx]
    refine lv_istore_n (lv' := [(2, .int (nI k)), (0, .ref h0), (1, .int x)]) hx hb dX0_init_91 rfl hl (by decide) rfl (fun ls hl => ?_)
    refine lv_aload_n hx hb dX0_init_92 rfl (lv_at hl 1 rfl) ?_
    refine lv_iload_n hx hb dX0_init_93 rfl (lv_at hl 0 rfl) ?_
    refine za_newl (N := k) (t0 := 1) (cI := g 1) hx hb (hts _ ka_long) hK rfl hP hD hS hA rfl (by omega) (by simp only [rm_X0_init]; omega) (by simp only [rm_X0_init]; omega) dX0_init_94 (fun q15 H hP hD hS => ?_)
    have hP : va_P D vwCl [(h0, .inr (0, [.null, .null, .null, .ref q1, .ref q2, .ref q3, .ref q4, .ref q5, .ref q6, .ref q7, .int 0, .int 0, .int 0, .long 0, .int 0, .int 0, .long (-1), .long (-1)])), (q1, .inl (g 0, 4, .inl (fun _ => 0))), (q2, .inl (g 0, 4, .inl (fun _ => 0))), (q3, .inl (g 0, 400, .inl (fun _ => 0))), (q4, .inl (g 1, 400, .inr (.inl (fun _ => 0)))), (q5, .inl (g 1, 9, .inr (.inl (fun _ => 0)))), (q6, .inl (g 2, 4, .inr (.inr (.inr (.inr (fun _ => none)))))), (q7, .inl (g 0, 29, .inl (fun _ => 0))), (q15, .inl (g 1, k, .inr (.inl (fun _ => 0))))] _ := hP
    have hD : va_D A [(h0, .inr (0, [.null, .null, .null, .ref q1, .ref q2, .ref q3, .ref q4, .ref q5, .ref q6, .ref q7, .int 0, .int 0, .int 0, .long 0, .int 0, .int 0, .long (-1), .long (-1)])), (q1, .inl (g 0, 4, .inl (fun _ => 0))), (q2, .inl (g 0, 4, .inl (fun _ => 0))), (q3, .inl (g 0, 400, .inl (fun _ => 0))), (q4, .inl (g 1, 400, .inr (.inl (fun _ => 0)))), (q5, .inl (g 1, 9, .inr (.inl (fun _ => 0)))), (q6, .inl (g 2, 4, .inr (.inr (.inr (.inr (fun _ => none)))))), (q7, .inl (g 0, 29, .inl (fun _ => 0))), (q15, .inl (g 1, k, .inr (.inl (fun _ => 0))))] := hD
    refine va_putF (D := D) (ci := 0) (v := .ref q15) (ty := .array .long) (C := RX0) (T := TX0) (N := 18) hx hb hts iw_X0 tyX0 tyok_X0 nm_X0 hown hK hP hD hS 0 rfl rfl 0 (by decide) (hts _ kf_X0_50) (fun _ h9 => h9) rfl hnm rfl (by decide +kernel) rfl rfl (Nat.le_of_ble_eq_true rfl) dX0_init_96 (fun H locs hP hD hS => ?_)
    have hP : va_P D vwCl [(h0, .inr (0, [.ref q15, .null, .null, .ref q1, .ref q2, .ref q3, .ref q4, .ref q5, .ref q6, .ref q7, .int 0, .int 0, .int 0, .long 0, .int 0, .int 0, .long (-1), .long (-1)])), (q1, .inl (g 0, 4, .inl (fun _ => 0))), (q2, .inl (g 0, 4, .inl (fun _ => 0))), (q3, .inl (g 0, 400, .inl (fun _ => 0))), (q4, .inl (g 1, 400, .inr (.inl (fun _ => 0)))), (q5, .inl (g 1, 9, .inr (.inl (fun _ => 0)))), (q6, .inl (g 2, 4, .inr (.inr (.inr (.inr (fun _ => none)))))), (q7, .inl (g 0, 29, .inl (fun _ => 0))), (q15, .inl (g 1, k, .inr (.inl (fun _ => 0))))] _ := hP
    have hD : va_D A [(h0, .inr (0, [.ref q15, .null, .null, .ref q1, .ref q2, .ref q3, .ref q4, .ref q5, .ref q6, .ref q7, .int 0, .int 0, .int 0, .long 0, .int 0, .int 0, .long (-1), .long (-1)])), (q1, .inl (g 0, 4, .inl (fun _ => 0))), (q2, .inl (g 0, 4, .inl (fun _ => 0))), (q3, .inl (g 0, 400, .inl (fun _ => 0))), (q4, .inl (g 1, 400, .inr (.inl (fun _ => 0)))), (q5, .inl (g 1, 9, .inr (.inl (fun _ => 0)))), (q6, .inl (g 2, 4, .inr (.inr (.inr (.inr (fun _ => none)))))), (q7, .inl (g 0, 29, .inl (fun _ => 0))), (q15, .inl (g 1, k, .inr (.inl (fun _ => 0))))] := hD
    refine lv_aload_n hx hb dX0_init_99 rfl (lv_at hl 1 rfl) ?_
    refine lv_iload_n hx hb dX0_init_100 rfl (lv_at hl 0 rfl) ?_
    refine za_newi (N := k) (t0 := 0) (cI := g 0) hx hb (hts _ ka_int) hK rfl hP hD hS hA rfl (by omega) (by simp only [rm_X0_init]; omega) (by simp only [rm_X0_init]; omega) dX0_init_101 (fun q16 H hP hD hS => ?_)
    have hP : va_P D vwCl [(h0, .inr (0, [.ref q15, .null, .null, .ref q1, .ref q2, .ref q3, .ref q4, .ref q5, .ref q6, .ref q7, .int 0, .int 0, .int 0, .long 0, .int 0, .int 0, .long (-1), .long (-1)])), (q1, .inl (g 0, 4, .inl (fun _ => 0))), (q2, .inl (g 0, 4, .inl (fun _ => 0))), (q3, .inl (g 0, 400, .inl (fun _ => 0))), (q4, .inl (g 1, 400, .inr (.inl (fun _ => 0)))), (q5, .inl (g 1, 9, .inr (.inl (fun _ => 0)))), (q6, .inl (g 2, 4, .inr (.inr (.inr (.inr (fun _ => none)))))), (q7, .inl (g 0, 29, .inl (fun _ => 0))), (q15, .inl (g 1, k, .inr (.inl (fun _ => 0)))), (q16, .inl (g 0, k, .inl (fun _ => 0)))] _ := hP
    have hD : va_D A [(h0, .inr (0, [.ref q15, .null, .null, .ref q1, .ref q2, .ref q3, .ref q4, .ref q5, .ref q6, .ref q7, .int 0, .int 0, .int 0, .long 0, .int 0, .int 0, .long (-1), .long (-1)])), (q1, .inl (g 0, 4, .inl (fun _ => 0))), (q2, .inl (g 0, 4, .inl (fun _ => 0))), (q3, .inl (g 0, 400, .inl (fun _ => 0))), (q4, .inl (g 1, 400, .inr (.inl (fun _ => 0)))), (q5, .inl (g 1, 9, .inr (.inl (fun _ => 0)))), (q6, .inl (g 2, 4, .inr (.inr (.inr (.inr (fun _ => none)))))), (q7, .inl (g 0, 29, .inl (fun _ => 0))), (q15, .inl (g 1, k, .inr (.inl (fun _ => 0)))), (q16, .inl (g 0, k, .inl (fun _ => 0)))] := hD
    refine va_putF (D := D) (ci := 0) (v := .ref q16) (ty := .array .int) (C := RX0) (T := TX0) (N := 18) hx hb hts iw_X0 tyX0 tyok_X0 nm_X0 hown hK hP hD hS 0 rfl rfl 1 (by decide) (hts _ kf_X0_53) (fun _ h9 => h9) rfl hnm rfl (by decide +kernel) rfl rfl (Nat.le_of_ble_eq_true rfl) dX0_init_103 (fun H locs hP hD hS => ?_)
    have hP : va_P D vwCl [(h0, .inr (0, [.ref q15, .ref q16, .null, .ref q1, .ref q2, .ref q3, .ref q4, .ref q5, .ref q6, .ref q7, .int 0, .int 0, .int 0, .long 0, .int 0, .int 0, .long (-1), .long (-1)])), (q1, .inl (g 0, 4, .inl (fun _ => 0))), (q2, .inl (g 0, 4, .inl (fun _ => 0))), (q3, .inl (g 0, 400, .inl (fun _ => 0))), (q4, .inl (g 1, 400, .inr (.inl (fun _ => 0)))), (q5, .inl (g 1, 9, .inr (.inl (fun _ => 0)))), (q6, .inl (g 2, 4, .inr (.inr (.inr (.inr (fun _ => none)))))), (q7, .inl (g 0, 29, .inl (fun _ => 0))), (q15, .inl (g 1, k, .inr (.inl (fun _ => 0)))), (q16, .inl (g 0, k, .inl (fun _ => 0)))] _ := hP
    have hD : va_D A [(h0, .inr (0, [.ref q15, .ref q16, .null, .ref q1, .ref q2, .ref q3, .ref q4, .ref q5, .ref q6, .ref q7, .int 0, .int 0, .int 0, .long 0, .int 0, .int 0, .long (-1), .long (-1)])), (q1, .inl (g 0, 4, .inl (fun _ => 0))), (q2, .inl (g 0, 4, .inl (fun _ => 0))), (q3, .inl (g 0, 400, .inl (fun _ => 0))), (q4, .inl (g 1, 400, .inr (.inl (fun _ => 0)))), (q5, .inl (g 1, 9, .inr (.inl (fun _ => 0)))), (q6, .inl (g 2, 4, .inr (.inr (.inr (.inr (fun _ => none)))))), (q7, .inl (g 0, 29, .inl (fun _ => 0))), (q15, .inl (g 1, k, .inr (.inl (fun _ => 0)))), (q16, .inl (g 0, k, .inl (fun _ => 0)))] := hD
    refine lv_aload_n hx hb dX0_init_106 rfl (lv_at hl 1 rfl) ?_
    refine lv_iload_n hx hb dX0_init_107 rfl (lv_at hl 0 rfl) ?_
    refine za_newi (N := k) (t0 := 0) (cI := g 0) hx hb (hts _ ka_int) hK rfl hP hD hS hA rfl (by omega) (by simp only [rm_X0_init]; omega) (by simp only [rm_X0_init]; omega) dX0_init_108 (fun q17 H hP hD hS => ?_)
    have hP : va_P D vwCl [(h0, .inr (0, [.ref q15, .ref q16, .null, .ref q1, .ref q2, .ref q3, .ref q4, .ref q5, .ref q6, .ref q7, .int 0, .int 0, .int 0, .long 0, .int 0, .int 0, .long (-1), .long (-1)])), (q1, .inl (g 0, 4, .inl (fun _ => 0))), (q2, .inl (g 0, 4, .inl (fun _ => 0))), (q3, .inl (g 0, 400, .inl (fun _ => 0))), (q4, .inl (g 1, 400, .inr (.inl (fun _ => 0)))), (q5, .inl (g 1, 9, .inr (.inl (fun _ => 0)))), (q6, .inl (g 2, 4, .inr (.inr (.inr (.inr (fun _ => none)))))), (q7, .inl (g 0, 29, .inl (fun _ => 0))), (q15, .inl (g 1, k, .inr (.inl (fun _ => 0)))), (q16, .inl (g 0, k, .inl (fun _ => 0))), (q17, .inl (g 0, k, .inl (fun _ => 0)))] _ := hP
    have hD : va_D A [(h0, .inr (0, [.ref q15, .ref q16, .null, .ref q1, .ref q2, .ref q3, .ref q4, .ref q5, .ref q6, .ref q7, .int 0, .int 0, .int 0, .long 0, .int 0, .int 0, .long (-1), .long (-1)])), (q1, .inl (g 0, 4, .inl (fun _ => 0))), (q2, .inl (g 0, 4, .inl (fun _ => 0))), (q3, .inl (g 0, 400, .inl (fun _ => 0))), (q4, .inl (g 1, 400, .inr (.inl (fun _ => 0)))), (q5, .inl (g 1, 9, .inr (.inl (fun _ => 0)))), (q6, .inl (g 2, 4, .inr (.inr (.inr (.inr (fun _ => none)))))), (q7, .inl (g 0, 29, .inl (fun _ => 0))), (q15, .inl (g 1, k, .inr (.inl (fun _ => 0)))), (q16, .inl (g 0, k, .inl (fun _ => 0))), (q17, .inl (g 0, k, .inl (fun _ => 0)))] := hD
    refine va_putF (D := D) (ci := 0) (v := .ref q17) (ty := .array .int) (C := RX0) (T := TX0) (N := 18) hx hb hts iw_X0 tyX0 tyok_X0 nm_X0 hown hK hP hD hS 0 rfl rfl 2 (by decide) (hts _ kf_X0_56) (fun _ h9 => h9) rfl hnm rfl (by decide +kernel) rfl rfl (Nat.le_of_ble_eq_true rfl) dX0_init_110 (fun H locs hP hD hS => ?_)
    have hP : va_P D vwCl [(h0, .inr (0, [.ref q15, .ref q16, .ref q17, .ref q1, .ref q2, .ref q3, .ref q4, .ref q5, .ref q6, .ref q7, .int 0, .int 0, .int 0, .long 0, .int 0, .int 0, .long (-1), .long (-1)])), (q1, .inl (g 0, 4, .inl (fun _ => 0))), (q2, .inl (g 0, 4, .inl (fun _ => 0))), (q3, .inl (g 0, 400, .inl (fun _ => 0))), (q4, .inl (g 1, 400, .inr (.inl (fun _ => 0)))), (q5, .inl (g 1, 9, .inr (.inl (fun _ => 0)))), (q6, .inl (g 2, 4, .inr (.inr (.inr (.inr (fun _ => none)))))), (q7, .inl (g 0, 29, .inl (fun _ => 0))), (q15, .inl (g 1, k, .inr (.inl (fun _ => 0)))), (q16, .inl (g 0, k, .inl (fun _ => 0))), (q17, .inl (g 0, k, .inl (fun _ => 0)))] _ := hP
    have hD : va_D A [(h0, .inr (0, [.ref q15, .ref q16, .ref q17, .ref q1, .ref q2, .ref q3, .ref q4, .ref q5, .ref q6, .ref q7, .int 0, .int 0, .int 0, .long 0, .int 0, .int 0, .long (-1), .long (-1)])), (q1, .inl (g 0, 4, .inl (fun _ => 0))), (q2, .inl (g 0, 4, .inl (fun _ => 0))), (q3, .inl (g 0, 400, .inl (fun _ => 0))), (q4, .inl (g 1, 400, .inr (.inl (fun _ => 0)))), (q5, .inl (g 1, 9, .inr (.inl (fun _ => 0)))), (q6, .inl (g 2, 4, .inr (.inr (.inr (.inr (fun _ => none)))))), (q7, .inl (g 0, 29, .inl (fun _ => 0))), (q15, .inl (g 1, k, .inr (.inl (fun _ => 0)))), (q16, .inl (g 0, k, .inl (fun _ => 0))), (q17, .inl (g 0, k, .inl (fun _ => 0)))] := hD
    refine lv_aload_n hx hb dX0_init_113 rfl (lv_at hl 1 rfl) ?_
    refine va_get (D := D) (ci := 0) (v := .ref q17) (C := RX0) (T := TX0) (N := 18) hx hb hts iw_X0 hown hK hP 0 rfl rfl 2 (by decide) (hts _ kf_X0_56) (fun _ h9 => h9) rfl dX0_init_114 ?_
    refine lv_sipush (v := 1000) hx hb dX0_init_117 (by decide) ?_
    refine zk_sv (rest := []) (wr := [0, 1, 2, 3, 4, 5, 6, 7, 8, 9].filterMap (fun i => ([(h0, .inr (0, [.ref q15, .ref q16, .ref q17, .ref q1, .ref q2, .ref q3, .ref q4, .ref q5, .ref q6, .ref q7, .int 0, .int 0, .int 0, .long 0, .int 0, .int 0, .long (-1), .long (-1)])), (q1, .inl (g 0, 4, .inl (fun _ => 0))), (q2, .inl (g 0, 4, .inl (fun _ => 0))), (q3, .inl (g 0, 400, .inl (fun _ => 0))), (q4, .inl (g 1, 400, .inr (.inl (fun _ => 0)))), (q5, .inl (g 1, 9, .inr (.inl (fun _ => 0)))), (q6, .inl (g 2, 4, .inr (.inr (.inr (.inr (fun _ => none)))))), (q7, .inl (g 0, 29, .inl (fun _ => 0))), (q15, .inl (g 1, k, .inr (.inl (fun _ => 0)))), (q16, .inl (g 0, k, .inl (fun _ => 0))), (q17, .inl (g 0, k, .inl (fun _ => 0)))] : va_W)[i]?)) C0 hP hD hS (c_fill l D (tyG g) 0 (g 0) rfl q17 k (by omega) (fun _ => 0) (1000 : Int32)) kk_X0_59 ks_fill [10] [0, 1, 2, 3, 4, 5, 6, 7, 8, 9] rfl rfl ⟨by decide, by decide, by decide⟩ hl.1 rfl rfl (Nat.le_of_ble_eq_true rfl) ⟨(Nat.le_of_ble_eq_true rfl), (Nat.le_of_ble_eq_true rfl)⟩ rfl rfl ⟨by simp only [rm_X0_init]; omega, by simp only [rm_X0_init]; omega⟩ dX0_init_120 (fun u_120 H locs hw_120 hP hD hS => ?_)
    have hP : va_P D vwCl [(h0, .inr (0, [.ref q15, .ref q16, .ref q17, .ref q1, .ref q2, .ref q3, .ref q4, .ref q5, .ref q6, .ref q7, .int 0, .int 0, .int 0, .long 0, .int 0, .int 0, .long (-1), .long (-1)])), (q1, .inl (g 0, 4, .inl (fun _ => 0))), (q2, .inl (g 0, 4, .inl (fun _ => 0))), (q3, .inl (g 0, 400, .inl (fun _ => 0))), (q4, .inl (g 1, 400, .inr (.inl (fun _ => 0)))), (q5, .inl (g 1, 9, .inr (.inl (fun _ => 0)))), (q6, .inl (g 2, 4, .inr (.inr (.inr (.inr (fun _ => none)))))), (q7, .inl (g 0, 29, .inl (fun _ => 0))), (q15, .inl (g 1, k, .inr (.inl (fun _ => 0)))), (q16, .inl (g 0, k, .inl (fun _ => 0))), (q17, .inl (g 0, k, .inl (m_fil (1000 : Int32) (fun _ => 0) k)))] _ := hP
    have hD : va_D A [(h0, .inr (0, [.ref q15, .ref q16, .ref q17, .ref q1, .ref q2, .ref q3, .ref q4, .ref q5, .ref q6, .ref q7, .int 0, .int 0, .int 0, .long 0, .int 0, .int 0, .long (-1), .long (-1)])), (q1, .inl (g 0, 4, .inl (fun _ => 0))), (q2, .inl (g 0, 4, .inl (fun _ => 0))), (q3, .inl (g 0, 400, .inl (fun _ => 0))), (q4, .inl (g 1, 400, .inr (.inl (fun _ => 0)))), (q5, .inl (g 1, 9, .inr (.inl (fun _ => 0)))), (q6, .inl (g 2, 4, .inr (.inr (.inr (.inr (fun _ => none)))))), (q7, .inl (g 0, 29, .inl (fun _ => 0))), (q15, .inl (g 1, k, .inr (.inl (fun _ => 0)))), (q16, .inl (g 0, k, .inl (fun _ => 0))), (q17, .inl (g 0, k, .inl (m_fil (1000 : Int32) (fun _ => 0) k)))] := hD
    refine lv_iconst (v := 0) hx hb dX0_init_123 (by decide) ?_
    refine lv_istore_n (lv' := [(3, .int 0), (2, .int (nI k)), (0, .ref h0), (1, .int x)]) hx hb dX0_init_124 rfl hl (by decide) rfl (fun ls hl => ?_)
    refine lv_iload_n hx hb dX0_init_125 rfl (lv_at hl 0 rfl) ?_
    refine lv_iconst (v := 4) hx hb dX0_init_126 (by decide) ?_
    refine lv_icmp_ge (tgt := 149) hx hb dX0_init_127 (by decide) (fun c_127 => absurd c_127 (by decide)) (fun _ => ?_)
    refine lv_aload_n hx hb dX0_init_130 rfl (lv_at hl 2 rfl) ?_
    refine va_get (D := D) (ci := 0) (v := .ref q6) (C := RX0) (T := TX0) (N := 18) hx hb hts iw_X0 hown hK hP 0 rfl rfl 8 (by decide) (hts _ kf_X0_28) (fun _ h9 => h9) rfl dX0_init_131 ?_
    refine lv_iload_n hx hb dX0_init_134 rfl (lv_at hl 0 rfl) ?_
    refine va_new (ci := 1) (fs := [.null, .int 0, .int 0]) (C := RX1) (T := TX1) (N := 3) hx hb hts iw_X1 tyX1 tyok_X1 hown (hts _ kd_X0_26) (hts _ kt_X1) (hts _ ki_X1) hK hP hD hS hA rfl (fun j hj => by rcases (show j = 0 ∨ j = 1 ∨ j = 2 by omega) with rfl | rfl | rfl <;> rfl) (by simp only [rm_X0_init]; omega) (by simp only [rm_X0_init]; omega) dX0_init_135 (fun q18 H hP hD hS => ?_)
    have hP : va_P D vwCl [(h0, .inr (0, [.ref q15, .ref q16, .ref q17, .ref q1, .ref q2, .ref q3, .ref q4, .ref q5, .ref q6, .ref q7, .int 0, .int 0, .int 0, .long 0, .int 0, .int 0, .long (-1), .long (-1)])), (q1, .inl (g 0, 4, .inl (fun _ => 0))), (q2, .inl (g 0, 4, .inl (fun _ => 0))), (q3, .inl (g 0, 400, .inl (fun _ => 0))), (q4, .inl (g 1, 400, .inr (.inl (fun _ => 0)))), (q5, .inl (g 1, 9, .inr (.inl (fun _ => 0)))), (q6, .inl (g 2, 4, .inr (.inr (.inr (.inr (fun _ => none)))))), (q7, .inl (g 0, 29, .inl (fun _ => 0))), (q15, .inl (g 1, k, .inr (.inl (fun _ => 0)))), (q16, .inl (g 0, k, .inl (fun _ => 0))), (q17, .inl (g 0, k, .inl (m_fil (1000 : Int32) (fun _ => 0) k))), (q18, .inr (1, [.null, .int 0, .int 0]))] _ := hP
    have hD : va_D A [(h0, .inr (0, [.ref q15, .ref q16, .ref q17, .ref q1, .ref q2, .ref q3, .ref q4, .ref q5, .ref q6, .ref q7, .int 0, .int 0, .int 0, .long 0, .int 0, .int 0, .long (-1), .long (-1)])), (q1, .inl (g 0, 4, .inl (fun _ => 0))), (q2, .inl (g 0, 4, .inl (fun _ => 0))), (q3, .inl (g 0, 400, .inl (fun _ => 0))), (q4, .inl (g 1, 400, .inr (.inl (fun _ => 0)))), (q5, .inl (g 1, 9, .inr (.inl (fun _ => 0)))), (q6, .inl (g 2, 4, .inr (.inr (.inr (.inr (fun _ => none)))))), (q7, .inl (g 0, 29, .inl (fun _ => 0))), (q15, .inl (g 1, k, .inr (.inl (fun _ => 0)))), (q16, .inl (g 0, k, .inl (fun _ => 0))), (q17, .inl (g 0, k, .inl (m_fil (1000 : Int32) (fun _ => 0) k))), (q18, .inr (1, [.null, .int 0, .int 0]))] := hD
    refine lv_dup hx hb dX0_init_138 rfl ?_
    refine zk_xvN (rest := [.ref q18, .int 0, .ref q6]) (wr := [0, 1, 2, 3, 4, 5, 6, 7, 8, 9, 10].filterMap (fun i => ([(h0, .inr (0, [.ref q15, .ref q16, .ref q17, .ref q1, .ref q2, .ref q3, .ref q4, .ref q5, .ref q6, .ref q7, .int 0, .int 0, .int 0, .long 0, .int 0, .int 0, .long (-1), .long (-1)])), (q1, .inl (g 0, 4, .inl (fun _ => 0))), (q2, .inl (g 0, 4, .inl (fun _ => 0))), (q3, .inl (g 0, 400, .inl (fun _ => 0))), (q4, .inl (g 1, 400, .inr (.inl (fun _ => 0)))), (q5, .inl (g 1, 9, .inr (.inl (fun _ => 0)))), (q6, .inl (g 2, 4, .inr (.inr (.inr (.inr (fun _ => none)))))), (q7, .inl (g 0, 29, .inl (fun _ => 0))), (q15, .inl (g 1, k, .inr (.inl (fun _ => 0)))), (q16, .inl (g 0, k, .inl (fun _ => 0))), (q17, .inl (g 0, k, .inl (m_fil (1000 : Int32) (fun _ => 0) k))), (q18, .inr (1, [.null, .int 0, .int 0]))] : va_W)[i]?)) C0 hP hD hS (c_X1_init l D g q18) kc_X1_init ki_X1 (zN_wi hN) ks_X1_init rfl (by decide +kernel) [11] [0, 1, 2, 3, 4, 5, 6, 7, 8, 9, 10] rfl rfl ⟨by decide, by decide, by decide⟩ hl.1 rfl rfl (Nat.le_of_ble_eq_true rfl) ⟨(Nat.le_of_ble_eq_true rfl), (Nat.le_of_ble_eq_true rfl)⟩ rfl rfl ⟨by simp only [rm_X0_init]; omega, by simp only [rm_X0_init]; omega⟩ dX0_init_139 (fun vq18 H locs hw_139 hP hD hS => ?_)
    have hP : va_P D vwCl [(h0, .inr (0, [.ref q15, .ref q16, .ref q17, .ref q1, .ref q2, .ref q3, .ref q4, .ref q5, .ref q6, .ref q7, .int 0, .int 0, .int 0, .long 0, .int 0, .int 0, .long (-1), .long (-1)])), (q1, .inl (g 0, 4, .inl (fun _ => 0))), (q2, .inl (g 0, 4, .inl (fun _ => 0))), (q3, .inl (g 0, 400, .inl (fun _ => 0))), (q4, .inl (g 1, 400, .inr (.inl (fun _ => 0)))), (q5, .inl (g 1, 9, .inr (.inl (fun _ => 0)))), (q6, .inl (g 2, 4, .inr (.inr (.inr (.inr (fun _ => none)))))), (q7, .inl (g 0, 29, .inl (fun _ => 0))), (q15, .inl (g 1, k, .inr (.inl (fun _ => 0)))), (q16, .inl (g 0, k, .inl (fun _ => 0))), (q17, .inl (g 0, k, .inl (m_fil (1000 : Int32) (fun _ => 0) k))), (q18, .inr (1, [.ref vq18, .int 0, .int (-1)])), (vq18, .inl (g 0, 8, .inl (fun _ => 0)))] _ := hP
    have hD : va_D A [(h0, .inr (0, [.ref q15, .ref q16, .ref q17, .ref q1, .ref q2, .ref q3, .ref q4, .ref q5, .ref q6, .ref q7, .int 0, .int 0, .int 0, .long 0, .int 0, .int 0, .long (-1), .long (-1)])), (q1, .inl (g 0, 4, .inl (fun _ => 0))), (q2, .inl (g 0, 4, .inl (fun _ => 0))), (q3, .inl (g 0, 400, .inl (fun _ => 0))), (q4, .inl (g 1, 400, .inr (.inl (fun _ => 0)))), (q5, .inl (g 1, 9, .inr (.inl (fun _ => 0)))), (q6, .inl (g 2, 4, .inr (.inr (.inr (.inr (fun _ => none)))))), (q7, .inl (g 0, 29, .inl (fun _ => 0))), (q15, .inl (g 1, k, .inr (.inl (fun _ => 0)))), (q16, .inl (g 0, k, .inl (fun _ => 0))), (q17, .inl (g 0, k, .inl (m_fil (1000 : Int32) (fun _ => 0) k))), (q18, .inr (1, [.ref vq18, .int 0, .int (-1)])), (vq18, .inl (g 0, 8, .inl (fun _ => 0)))] := hD
    refine va_astq hx hb hK hP hD hS 6 2 11 1 (r := (RX1, TX1, 3)) (i := nI 0) rfl rfl rfl rfl (vp_in_nI (by decide) (by decide)) dX0_init_142 (fun H locs hP hD hS => ?_)
    have hP : va_P D vwCl [(h0, .inr (0, [.ref q15, .ref q16, .ref q17, .ref q1, .ref q2, .ref q3, .ref q4, .ref q5, .ref q6, .ref q7, .int 0, .int 0, .int 0, .long 0, .int 0, .int 0, .long (-1), .long (-1)])), (q1, .inl (g 0, 4, .inl (fun _ => 0))), (q2, .inl (g 0, 4, .inl (fun _ => 0))), (q3, .inl (g 0, 400, .inl (fun _ => 0))), (q4, .inl (g 1, 400, .inr (.inl (fun _ => 0)))), (q5, .inl (g 1, 9, .inr (.inl (fun _ => 0)))), (q6, .inl (g 2, 4, .inr (.inr (.inr (.inr (va_up (fun _ => none) 0 (some q18))))))), (q7, .inl (g 0, 29, .inl (fun _ => 0))), (q15, .inl (g 1, k, .inr (.inl (fun _ => 0)))), (q16, .inl (g 0, k, .inl (fun _ => 0))), (q17, .inl (g 0, k, .inl (m_fil (1000 : Int32) (fun _ => 0) k))), (q18, .inr (1, [.ref vq18, .int 0, .int (-1)])), (vq18, .inl (g 0, 8, .inl (fun _ => 0)))] _ := hP
    have hD : va_D A [(h0, .inr (0, [.ref q15, .ref q16, .ref q17, .ref q1, .ref q2, .ref q3, .ref q4, .ref q5, .ref q6, .ref q7, .int 0, .int 0, .int 0, .long 0, .int 0, .int 0, .long (-1), .long (-1)])), (q1, .inl (g 0, 4, .inl (fun _ => 0))), (q2, .inl (g 0, 4, .inl (fun _ => 0))), (q3, .inl (g 0, 400, .inl (fun _ => 0))), (q4, .inl (g 1, 400, .inr (.inl (fun _ => 0)))), (q5, .inl (g 1, 9, .inr (.inl (fun _ => 0)))), (q6, .inl (g 2, 4, .inr (.inr (.inr (.inr (va_up (fun _ => none) 0 (some q18))))))), (q7, .inl (g 0, 29, .inl (fun _ => 0))), (q15, .inl (g 1, k, .inr (.inl (fun _ => 0)))), (q16, .inl (g 0, k, .inl (fun _ => 0))), (q17, .inl (g 0, k, .inl (m_fil (1000 : Int32) (fun _ => 0) k))), (q18, .inr (1, [.ref vq18, .int 0, .int (-1)])), (vq18, .inl (g 0, 8, .inl (fun _ => 0)))] := hD
    refine lv_iinc (v := 1) (lv' := [(3, .int 1), (2, .int (nI k)), (0, .ref h0), (1, .int x)]) hx hb dX0_init_143 hl (k := 0) rfl (by decide) (by decide) rfl (fun ls hl => ?_)
    refine lv_goto (tgt := 125) hx hb dX0_init_146 (by decide) ?_
    refine lv_iload_n hx hb dX0_init_125 rfl (lv_at hl 0 rfl) ?_
    refine lv_iconst (v := 4) hx hb dX0_init_126 (by decide) ?_
    refine lv_icmp_ge (tgt := 149) hx hb dX0_init_127 (by decide) (fun c_127 => absurd c_127 (by decide)) (fun _ => ?_)
    refine lv_aload_n hx hb dX0_init_130 rfl (lv_at hl 2 rfl) ?_
    refine va_get (D := D) (ci := 0) (v := .ref q6) (C := RX0) (T := TX0) (N := 18) hx hb hts iw_X0 hown hK hP 0 rfl rfl 8 (by decide) (hts _ kf_X0_28) (fun _ h9 => h9) rfl dX0_init_131 ?_
    refine lv_iload_n hx hb dX0_init_134 rfl (lv_at hl 0 rfl) ?_
    refine va_new (ci := 1) (fs := [.null, .int 0, .int 0]) (C := RX1) (T := TX1) (N := 3) hx hb hts iw_X1 tyX1 tyok_X1 hown (hts _ kd_X0_26) (hts _ kt_X1) (hts _ ki_X1) hK hP hD hS hA rfl (fun j hj => by rcases (show j = 0 ∨ j = 1 ∨ j = 2 by omega) with rfl | rfl | rfl <;> rfl) (by simp only [rm_X0_init]; omega) (by simp only [rm_X0_init]; omega) dX0_init_135 (fun q19 H hP hD hS => ?_)
    have hP : va_P D vwCl [(h0, .inr (0, [.ref q15, .ref q16, .ref q17, .ref q1, .ref q2, .ref q3, .ref q4, .ref q5, .ref q6, .ref q7, .int 0, .int 0, .int 0, .long 0, .int 0, .int 0, .long (-1), .long (-1)])), (q1, .inl (g 0, 4, .inl (fun _ => 0))), (q2, .inl (g 0, 4, .inl (fun _ => 0))), (q3, .inl (g 0, 400, .inl (fun _ => 0))), (q4, .inl (g 1, 400, .inr (.inl (fun _ => 0)))), (q5, .inl (g 1, 9, .inr (.inl (fun _ => 0)))), (q6, .inl (g 2, 4, .inr (.inr (.inr (.inr (va_up (fun _ => none) 0 (some q18))))))), (q7, .inl (g 0, 29, .inl (fun _ => 0))), (q15, .inl (g 1, k, .inr (.inl (fun _ => 0)))), (q16, .inl (g 0, k, .inl (fun _ => 0))), (q17, .inl (g 0, k, .inl (m_fil (1000 : Int32) (fun _ => 0) k))), (q18, .inr (1, [.ref vq18, .int 0, .int (-1)])), (vq18, .inl (g 0, 8, .inl (fun _ => 0))), (q19, .inr (1, [.null, .int 0, .int 0]))] _ := hP
    have hD : va_D A [(h0, .inr (0, [.ref q15, .ref q16, .ref q17, .ref q1, .ref q2, .ref q3, .ref q4, .ref q5, .ref q6, .ref q7, .int 0, .int 0, .int 0, .long 0, .int 0, .int 0, .long (-1), .long (-1)])), (q1, .inl (g 0, 4, .inl (fun _ => 0))), (q2, .inl (g 0, 4, .inl (fun _ => 0))), (q3, .inl (g 0, 400, .inl (fun _ => 0))), (q4, .inl (g 1, 400, .inr (.inl (fun _ => 0)))), (q5, .inl (g 1, 9, .inr (.inl (fun _ => 0)))), (q6, .inl (g 2, 4, .inr (.inr (.inr (.inr (va_up (fun _ => none) 0 (some q18))))))), (q7, .inl (g 0, 29, .inl (fun _ => 0))), (q15, .inl (g 1, k, .inr (.inl (fun _ => 0)))), (q16, .inl (g 0, k, .inl (fun _ => 0))), (q17, .inl (g 0, k, .inl (m_fil (1000 : Int32) (fun _ => 0) k))), (q18, .inr (1, [.ref vq18, .int 0, .int (-1)])), (vq18, .inl (g 0, 8, .inl (fun _ => 0))), (q19, .inr (1, [.null, .int 0, .int 0]))] := hD
    refine lv_dup hx hb dX0_init_138 rfl ?_
    refine zk_xvN (rest := [.ref q19, .int 1, .ref q6]) (wr := [0, 1, 2, 3, 4, 5, 6, 7, 8, 9, 10, 11, 12].filterMap (fun i => ([(h0, .inr (0, [.ref q15, .ref q16, .ref q17, .ref q1, .ref q2, .ref q3, .ref q4, .ref q5, .ref q6, .ref q7, .int 0, .int 0, .int 0, .long 0, .int 0, .int 0, .long (-1), .long (-1)])), (q1, .inl (g 0, 4, .inl (fun _ => 0))), (q2, .inl (g 0, 4, .inl (fun _ => 0))), (q3, .inl (g 0, 400, .inl (fun _ => 0))), (q4, .inl (g 1, 400, .inr (.inl (fun _ => 0)))), (q5, .inl (g 1, 9, .inr (.inl (fun _ => 0)))), (q6, .inl (g 2, 4, .inr (.inr (.inr (.inr (va_up (fun _ => none) 0 (some q18))))))), (q7, .inl (g 0, 29, .inl (fun _ => 0))), (q15, .inl (g 1, k, .inr (.inl (fun _ => 0)))), (q16, .inl (g 0, k, .inl (fun _ => 0))), (q17, .inl (g 0, k, .inl (m_fil (1000 : Int32) (fun _ => 0) k))), (q18, .inr (1, [.ref vq18, .int 0, .int (-1)])), (vq18, .inl (g 0, 8, .inl (fun _ => 0))), (q19, .inr (1, [.null, .int 0, .int 0]))] : va_W)[i]?)) C0 hP hD hS (c_X1_init l D g q19) kc_X1_init ki_X1 (zN_wi hN) ks_X1_init rfl (by decide +kernel) [13] [0, 1, 2, 3, 4, 5, 6, 7, 8, 9, 10, 11, 12] rfl rfl ⟨by decide, by decide, by decide⟩ hl.1 rfl rfl (Nat.le_of_ble_eq_true rfl) ⟨(Nat.le_of_ble_eq_true rfl), (Nat.le_of_ble_eq_true rfl)⟩ rfl rfl ⟨by simp only [rm_X0_init]; omega, by simp only [rm_X0_init]; omega⟩ dX0_init_139 (fun vq19 H locs hw_139 hP hD hS => ?_)
    have hP : va_P D vwCl [(h0, .inr (0, [.ref q15, .ref q16, .ref q17, .ref q1, .ref q2, .ref q3, .ref q4, .ref q5, .ref q6, .ref q7, .int 0, .int 0, .int 0, .long 0, .int 0, .int 0, .long (-1), .long (-1)])), (q1, .inl (g 0, 4, .inl (fun _ => 0))), (q2, .inl (g 0, 4, .inl (fun _ => 0))), (q3, .inl (g 0, 400, .inl (fun _ => 0))), (q4, .inl (g 1, 400, .inr (.inl (fun _ => 0)))), (q5, .inl (g 1, 9, .inr (.inl (fun _ => 0)))), (q6, .inl (g 2, 4, .inr (.inr (.inr (.inr (va_up (fun _ => none) 0 (some q18))))))), (q7, .inl (g 0, 29, .inl (fun _ => 0))), (q15, .inl (g 1, k, .inr (.inl (fun _ => 0)))), (q16, .inl (g 0, k, .inl (fun _ => 0))), (q17, .inl (g 0, k, .inl (m_fil (1000 : Int32) (fun _ => 0) k))), (q18, .inr (1, [.ref vq18, .int 0, .int (-1)])), (vq18, .inl (g 0, 8, .inl (fun _ => 0))), (q19, .inr (1, [.ref vq19, .int 0, .int (-1)])), (vq19, .inl (g 0, 8, .inl (fun _ => 0)))] _ := hP
    have hD : va_D A [(h0, .inr (0, [.ref q15, .ref q16, .ref q17, .ref q1, .ref q2, .ref q3, .ref q4, .ref q5, .ref q6, .ref q7, .int 0, .int 0, .int 0, .long 0, .int 0, .int 0, .long (-1), .long (-1)])), (q1, .inl (g 0, 4, .inl (fun _ => 0))), (q2, .inl (g 0, 4, .inl (fun _ => 0))), (q3, .inl (g 0, 400, .inl (fun _ => 0))), (q4, .inl (g 1, 400, .inr (.inl (fun _ => 0)))), (q5, .inl (g 1, 9, .inr (.inl (fun _ => 0)))), (q6, .inl (g 2, 4, .inr (.inr (.inr (.inr (va_up (fun _ => none) 0 (some q18))))))), (q7, .inl (g 0, 29, .inl (fun _ => 0))), (q15, .inl (g 1, k, .inr (.inl (fun _ => 0)))), (q16, .inl (g 0, k, .inl (fun _ => 0))), (q17, .inl (g 0, k, .inl (m_fil (1000 : Int32) (fun _ => 0) k))), (q18, .inr (1, [.ref vq18, .int 0, .int (-1)])), (vq18, .inl (g 0, 8, .inl (fun _ => 0))), (q19, .inr (1, [.ref vq19, .int 0, .int (-1)])), (vq19, .inl (g 0, 8, .inl (fun _ => 0)))] := hD
    refine va_astq hx hb hK hP hD hS 6 2 13 1 (r := (RX1, TX1, 3)) (i := nI 1) rfl rfl rfl rfl (vp_in_nI (by decide) (by decide)) dX0_init_142 (fun H locs hP hD hS => ?_)
    have hP : va_P D vwCl [(h0, .inr (0, [.ref q15, .ref q16, .ref q17, .ref q1, .ref q2, .ref q3, .ref q4, .ref q5, .ref q6, .ref q7, .int 0, .int 0, .int 0, .long 0, .int 0, .int 0, .long (-1), .long (-1)])), (q1, .inl (g 0, 4, .inl (fun _ => 0))), (q2, .inl (g 0, 4, .inl (fun _ => 0))), (q3, .inl (g 0, 400, .inl (fun _ => 0))), (q4, .inl (g 1, 400, .inr (.inl (fun _ => 0)))), (q5, .inl (g 1, 9, .inr (.inl (fun _ => 0)))), (q6, .inl (g 2, 4, .inr (.inr (.inr (.inr (va_up (va_up (fun _ => none) 0 (some q18)) 1 (some q19))))))), (q7, .inl (g 0, 29, .inl (fun _ => 0))), (q15, .inl (g 1, k, .inr (.inl (fun _ => 0)))), (q16, .inl (g 0, k, .inl (fun _ => 0))), (q17, .inl (g 0, k, .inl (m_fil (1000 : Int32) (fun _ => 0) k))), (q18, .inr (1, [.ref vq18, .int 0, .int (-1)])), (vq18, .inl (g 0, 8, .inl (fun _ => 0))), (q19, .inr (1, [.ref vq19, .int 0, .int (-1)])), (vq19, .inl (g 0, 8, .inl (fun _ => 0)))] _ := hP
    have hD : va_D A [(h0, .inr (0, [.ref q15, .ref q16, .ref q17, .ref q1, .ref q2, .ref q3, .ref q4, .ref q5, .ref q6, .ref q7, .int 0, .int 0, .int 0, .long 0, .int 0, .int 0, .long (-1), .long (-1)])), (q1, .inl (g 0, 4, .inl (fun _ => 0))), (q2, .inl (g 0, 4, .inl (fun _ => 0))), (q3, .inl (g 0, 400, .inl (fun _ => 0))), (q4, .inl (g 1, 400, .inr (.inl (fun _ => 0)))), (q5, .inl (g 1, 9, .inr (.inl (fun _ => 0)))), (q6, .inl (g 2, 4, .inr (.inr (.inr (.inr (va_up (va_up (fun _ => none) 0 (some q18)) 1 (some q19))))))), (q7, .inl (g 0, 29, .inl (fun _ => 0))), (q15, .inl (g 1, k, .inr (.inl (fun _ => 0)))), (q16, .inl (g 0, k, .inl (fun _ => 0))), (q17, .inl (g 0, k, .inl (m_fil (1000 : Int32) (fun _ => 0) k))), (q18, .inr (1, [.ref vq18, .int 0, .int (-1)])), (vq18, .inl (g 0, 8, .inl (fun _ => 0))), (q19, .inr (1, [.ref vq19, .int 0, .int (-1)])), (vq19, .inl (g 0, 8, .inl (fun _ => 0)))] := hD
    refine lv_iinc (v := 2) (lv' := [(3, .int 2), (2, .int (nI k)), (0, .ref h0), (1, .int x)]) hx hb dX0_init_143 hl (k := 0) rfl (by decide) (by decide) rfl (fun ls hl => ?_)
    refine lv_goto (tgt := 125) hx hb dX0_init_146 (by decide) ?_
    refine lv_iload_n hx hb dX0_init_125 rfl (lv_at hl 0 rfl) ?_
    refine lv_iconst (v := 4) hx hb dX0_init_126 (by decide) ?_
    refine lv_icmp_ge (tgt := 149) hx hb dX0_init_127 (by decide) (fun c_127 => absurd c_127 (by decide)) (fun _ => ?_)
    refine lv_aload_n hx hb dX0_init_130 rfl (lv_at hl 2 rfl) ?_
    refine va_get (D := D) (ci := 0) (v := .ref q6) (C := RX0) (T := TX0) (N := 18) hx hb hts iw_X0 hown hK hP 0 rfl rfl 8 (by decide) (hts _ kf_X0_28) (fun _ h9 => h9) rfl dX0_init_131 ?_
    refine lv_iload_n hx hb dX0_init_134 rfl (lv_at hl 0 rfl) ?_
    refine va_new (ci := 1) (fs := [.null, .int 0, .int 0]) (C := RX1) (T := TX1) (N := 3) hx hb hts iw_X1 tyX1 tyok_X1 hown (hts _ kd_X0_26) (hts _ kt_X1) (hts _ ki_X1) hK hP hD hS hA rfl (fun j hj => by rcases (show j = 0 ∨ j = 1 ∨ j = 2 by omega) with rfl | rfl | rfl <;> rfl) (by simp only [rm_X0_init]; omega) (by simp only [rm_X0_init]; omega) dX0_init_135 (fun q20 H hP hD hS => ?_)
    have hP : va_P D vwCl [(h0, .inr (0, [.ref q15, .ref q16, .ref q17, .ref q1, .ref q2, .ref q3, .ref q4, .ref q5, .ref q6, .ref q7, .int 0, .int 0, .int 0, .long 0, .int 0, .int 0, .long (-1), .long (-1)])), (q1, .inl (g 0, 4, .inl (fun _ => 0))), (q2, .inl (g 0, 4, .inl (fun _ => 0))), (q3, .inl (g 0, 400, .inl (fun _ => 0))), (q4, .inl (g 1, 400, .inr (.inl (fun _ => 0)))), (q5, .inl (g 1, 9, .inr (.inl (fun _ => 0)))), (q6, .inl (g 2, 4, .inr (.inr (.inr (.inr (va_up (va_up (fun _ => none) 0 (some q18)) 1 (some q19))))))), (q7, .inl (g 0, 29, .inl (fun _ => 0))), (q15, .inl (g 1, k, .inr (.inl (fun _ => 0)))), (q16, .inl (g 0, k, .inl (fun _ => 0))), (q17, .inl (g 0, k, .inl (m_fil (1000 : Int32) (fun _ => 0) k))), (q18, .inr (1, [.ref vq18, .int 0, .int (-1)])), (vq18, .inl (g 0, 8, .inl (fun _ => 0))), (q19, .inr (1, [.ref vq19, .int 0, .int (-1)])), (vq19, .inl (g 0, 8, .inl (fun _ => 0))), (q20, .inr (1, [.null, .int 0, .int 0]))] _ := hP
    have hD : va_D A [(h0, .inr (0, [.ref q15, .ref q16, .ref q17, .ref q1, .ref q2, .ref q3, .ref q4, .ref q5, .ref q6, .ref q7, .int 0, .int 0, .int 0, .long 0, .int 0, .int 0, .long (-1), .long (-1)])), (q1, .inl (g 0, 4, .inl (fun _ => 0))), (q2, .inl (g 0, 4, .inl (fun _ => 0))), (q3, .inl (g 0, 400, .inl (fun _ => 0))), (q4, .inl (g 1, 400, .inr (.inl (fun _ => 0)))), (q5, .inl (g 1, 9, .inr (.inl (fun _ => 0)))), (q6, .inl (g 2, 4, .inr (.inr (.inr (.inr (va_up (va_up (fun _ => none) 0 (some q18)) 1 (some q19))))))), (q7, .inl (g 0, 29, .inl (fun _ => 0))), (q15, .inl (g 1, k, .inr (.inl (fun _ => 0)))), (q16, .inl (g 0, k, .inl (fun _ => 0))), (q17, .inl (g 0, k, .inl (m_fil (1000 : Int32) (fun _ => 0) k))), (q18, .inr (1, [.ref vq18, .int 0, .int (-1)])), (vq18, .inl (g 0, 8, .inl (fun _ => 0))), (q19, .inr (1, [.ref vq19, .int 0, .int (-1)])), (vq19, .inl (g 0, 8, .inl (fun _ => 0))), (q20, .inr (1, [.null, .int 0, .int 0]))] := hD
    refine lv_dup hx hb dX0_init_138 rfl ?_
    refine zk_xvN (rest := [.ref q20, .int 2, .ref q6]) (wr := [0, 1, 2, 3, 4, 5, 6, 7, 8, 9, 10, 11, 12, 13, 14].filterMap (fun i => ([(h0, .inr (0, [.ref q15, .ref q16, .ref q17, .ref q1, .ref q2, .ref q3, .ref q4, .ref q5, .ref q6, .ref q7, .int 0, .int 0, .int 0, .long 0, .int 0, .int 0, .long (-1), .long (-1)])), (q1, .inl (g 0, 4, .inl (fun _ => 0))), (q2, .inl (g 0, 4, .inl (fun _ => 0))), (q3, .inl (g 0, 400, .inl (fun _ => 0))), (q4, .inl (g 1, 400, .inr (.inl (fun _ => 0)))), (q5, .inl (g 1, 9, .inr (.inl (fun _ => 0)))), (q6, .inl (g 2, 4, .inr (.inr (.inr (.inr (va_up (va_up (fun _ => none) 0 (some q18)) 1 (some q19))))))), (q7, .inl (g 0, 29, .inl (fun _ => 0))), (q15, .inl (g 1, k, .inr (.inl (fun _ => 0)))), (q16, .inl (g 0, k, .inl (fun _ => 0))), (q17, .inl (g 0, k, .inl (m_fil (1000 : Int32) (fun _ => 0) k))), (q18, .inr (1, [.ref vq18, .int 0, .int (-1)])), (vq18, .inl (g 0, 8, .inl (fun _ => 0))), (q19, .inr (1, [.ref vq19, .int 0, .int (-1)])), (vq19, .inl (g 0, 8, .inl (fun _ => 0))), (q20, .inr (1, [.null, .int 0, .int 0]))] : va_W)[i]?)) C0 hP hD hS (c_X1_init l D g q20) kc_X1_init ki_X1 (zN_wi hN) ks_X1_init rfl (by decide +kernel) [15] [0, 1, 2, 3, 4, 5, 6, 7, 8, 9, 10, 11, 12, 13, 14] rfl rfl ⟨by decide, by decide, by decide⟩ hl.1 rfl rfl (Nat.le_of_ble_eq_true rfl) ⟨(Nat.le_of_ble_eq_true rfl), (Nat.le_of_ble_eq_true rfl)⟩ rfl rfl ⟨by simp only [rm_X0_init]; omega, by simp only [rm_X0_init]; omega⟩ dX0_init_139 (fun vq20 H locs hw_139 hP hD hS => ?_)
    have hP : va_P D vwCl [(h0, .inr (0, [.ref q15, .ref q16, .ref q17, .ref q1, .ref q2, .ref q3, .ref q4, .ref q5, .ref q6, .ref q7, .int 0, .int 0, .int 0, .long 0, .int 0, .int 0, .long (-1), .long (-1)])), (q1, .inl (g 0, 4, .inl (fun _ => 0))), (q2, .inl (g 0, 4, .inl (fun _ => 0))), (q3, .inl (g 0, 400, .inl (fun _ => 0))), (q4, .inl (g 1, 400, .inr (.inl (fun _ => 0)))), (q5, .inl (g 1, 9, .inr (.inl (fun _ => 0)))), (q6, .inl (g 2, 4, .inr (.inr (.inr (.inr (va_up (va_up (fun _ => none) 0 (some q18)) 1 (some q19))))))), (q7, .inl (g 0, 29, .inl (fun _ => 0))), (q15, .inl (g 1, k, .inr (.inl (fun _ => 0)))), (q16, .inl (g 0, k, .inl (fun _ => 0))), (q17, .inl (g 0, k, .inl (m_fil (1000 : Int32) (fun _ => 0) k))), (q18, .inr (1, [.ref vq18, .int 0, .int (-1)])), (vq18, .inl (g 0, 8, .inl (fun _ => 0))), (q19, .inr (1, [.ref vq19, .int 0, .int (-1)])), (vq19, .inl (g 0, 8, .inl (fun _ => 0))), (q20, .inr (1, [.ref vq20, .int 0, .int (-1)])), (vq20, .inl (g 0, 8, .inl (fun _ => 0)))] _ := hP
    have hD : va_D A [(h0, .inr (0, [.ref q15, .ref q16, .ref q17, .ref q1, .ref q2, .ref q3, .ref q4, .ref q5, .ref q6, .ref q7, .int 0, .int 0, .int 0, .long 0, .int 0, .int 0, .long (-1), .long (-1)])), (q1, .inl (g 0, 4, .inl (fun _ => 0))), (q2, .inl (g 0, 4, .inl (fun _ => 0))), (q3, .inl (g 0, 400, .inl (fun _ => 0))), (q4, .inl (g 1, 400, .inr (.inl (fun _ => 0)))), (q5, .inl (g 1, 9, .inr (.inl (fun _ => 0)))), (q6, .inl (g 2, 4, .inr (.inr (.inr (.inr (va_up (va_up (fun _ => none) 0 (some q18)) 1 (some q19))))))), (q7, .inl (g 0, 29, .inl (fun _ => 0))), (q15, .inl (g 1, k, .inr (.inl (fun _ => 0)))), (q16, .inl (g 0, k, .inl (fun _ => 0))), (q17, .inl (g 0, k, .inl (m_fil (1000 : Int32) (fun _ => 0) k))), (q18, .inr (1, [.ref vq18, .int 0, .int (-1)])), (vq18, .inl (g 0, 8, .inl (fun _ => 0))), (q19, .inr (1, [.ref vq19, .int 0, .int (-1)])), (vq19, .inl (g 0, 8, .inl (fun _ => 0))), (q20, .inr (1, [.ref vq20, .int 0, .int (-1)])), (vq20, .inl (g 0, 8, .inl (fun _ => 0)))] := hD
    refine va_astq hx hb hK hP hD hS 6 2 15 1 (r := (RX1, TX1, 3)) (i := nI 2) rfl rfl rfl rfl (vp_in_nI (by decide) (by decide)) dX0_init_142 (fun H locs hP hD hS => ?_)
    have hP : va_P D vwCl [(h0, .inr (0, [.ref q15, .ref q16, .ref q17, .ref q1, .ref q2, .ref q3, .ref q4, .ref q5, .ref q6, .ref q7, .int 0, .int 0, .int 0, .long 0, .int 0, .int 0, .long (-1), .long (-1)])), (q1, .inl (g 0, 4, .inl (fun _ => 0))), (q2, .inl (g 0, 4, .inl (fun _ => 0))), (q3, .inl (g 0, 400, .inl (fun _ => 0))), (q4, .inl (g 1, 400, .inr (.inl (fun _ => 0)))), (q5, .inl (g 1, 9, .inr (.inl (fun _ => 0)))), (q6, .inl (g 2, 4, .inr (.inr (.inr (.inr (va_up (va_up (va_up (fun _ => none) 0 (some q18)) 1 (some q19)) 2 (some q20))))))), (q7, .inl (g 0, 29, .inl (fun _ => 0))), (q15, .inl (g 1, k, .inr (.inl (fun _ => 0)))), (q16, .inl (g 0, k, .inl (fun _ => 0))), (q17, .inl (g 0, k, .inl (m_fil (1000 : Int32) (fun _ => 0) k))), (q18, .inr (1, [.ref vq18, .int 0, .int (-1)])), (vq18, .inl (g 0, 8, .inl (fun _ => 0))), (q19, .inr (1, [.ref vq19, .int 0, .int (-1)])), (vq19, .inl (g 0, 8, .inl (fun _ => 0))), (q20, .inr (1, [.ref vq20, .int 0, .int (-1)])), (vq20, .inl (g 0, 8, .inl (fun _ => 0)))] _ := hP
    have hD : va_D A [(h0, .inr (0, [.ref q15, .ref q16, .ref q17, .ref q1, .ref q2, .ref q3, .ref q4, .ref q5, .ref q6, .ref q7, .int 0, .int 0, .int 0, .long 0, .int 0, .int 0, .long (-1), .long (-1)])), (q1, .inl (g 0, 4, .inl (fun _ => 0))), (q2, .inl (g 0, 4, .inl (fun _ => 0))), (q3, .inl (g 0, 400, .inl (fun _ => 0))), (q4, .inl (g 1, 400, .inr (.inl (fun _ => 0)))), (q5, .inl (g 1, 9, .inr (.inl (fun _ => 0)))), (q6, .inl (g 2, 4, .inr (.inr (.inr (.inr (va_up (va_up (va_up (fun _ => none) 0 (some q18)) 1 (some q19)) 2 (some q20))))))), (q7, .inl (g 0, 29, .inl (fun _ => 0))), (q15, .inl (g 1, k, .inr (.inl (fun _ => 0)))), (q16, .inl (g 0, k, .inl (fun _ => 0))), (q17, .inl (g 0, k, .inl (m_fil (1000 : Int32) (fun _ => 0) k))), (q18, .inr (1, [.ref vq18, .int 0, .int (-1)])), (vq18, .inl (g 0, 8, .inl (fun _ => 0))), (q19, .inr (1, [.ref vq19, .int 0, .int (-1)])), (vq19, .inl (g 0, 8, .inl (fun _ => 0))), (q20, .inr (1, [.ref vq20, .int 0, .int (-1)])), (vq20, .inl (g 0, 8, .inl (fun _ => 0)))] := hD
    refine lv_iinc (v := 3) (lv' := [(3, .int 3), (2, .int (nI k)), (0, .ref h0), (1, .int x)]) hx hb dX0_init_143 hl (k := 0) rfl (by decide) (by decide) rfl (fun ls hl => ?_)
    refine lv_goto (tgt := 125) hx hb dX0_init_146 (by decide) ?_
    refine lv_iload_n hx hb dX0_init_125 rfl (lv_at hl 0 rfl) ?_
    refine lv_iconst (v := 4) hx hb dX0_init_126 (by decide) ?_
    refine lv_icmp_ge (tgt := 149) hx hb dX0_init_127 (by decide) (fun c_127 => absurd c_127 (by decide)) (fun _ => ?_)
    refine lv_aload_n hx hb dX0_init_130 rfl (lv_at hl 2 rfl) ?_
    refine va_get (D := D) (ci := 0) (v := .ref q6) (C := RX0) (T := TX0) (N := 18) hx hb hts iw_X0 hown hK hP 0 rfl rfl 8 (by decide) (hts _ kf_X0_28) (fun _ h9 => h9) rfl dX0_init_131 ?_
    refine lv_iload_n hx hb dX0_init_134 rfl (lv_at hl 0 rfl) ?_
    refine va_new (ci := 1) (fs := [.null, .int 0, .int 0]) (C := RX1) (T := TX1) (N := 3) hx hb hts iw_X1 tyX1 tyok_X1 hown (hts _ kd_X0_26) (hts _ kt_X1) (hts _ ki_X1) hK hP hD hS hA rfl (fun j hj => by rcases (show j = 0 ∨ j = 1 ∨ j = 2 by omega) with rfl | rfl | rfl <;> rfl) (by simp only [rm_X0_init]; omega) (by simp only [rm_X0_init]; omega) dX0_init_135 (fun q21 H hP hD hS => ?_)
    have hP : va_P D vwCl [(h0, .inr (0, [.ref q15, .ref q16, .ref q17, .ref q1, .ref q2, .ref q3, .ref q4, .ref q5, .ref q6, .ref q7, .int 0, .int 0, .int 0, .long 0, .int 0, .int 0, .long (-1), .long (-1)])), (q1, .inl (g 0, 4, .inl (fun _ => 0))), (q2, .inl (g 0, 4, .inl (fun _ => 0))), (q3, .inl (g 0, 400, .inl (fun _ => 0))), (q4, .inl (g 1, 400, .inr (.inl (fun _ => 0)))), (q5, .inl (g 1, 9, .inr (.inl (fun _ => 0)))), (q6, .inl (g 2, 4, .inr (.inr (.inr (.inr (va_up (va_up (va_up (fun _ => none) 0 (some q18)) 1 (some q19)) 2 (some q20))))))), (q7, .inl (g 0, 29, .inl (fun _ => 0))), (q15, .inl (g 1, k, .inr (.inl (fun _ => 0)))), (q16, .inl (g 0, k, .inl (fun _ => 0))), (q17, .inl (g 0, k, .inl (m_fil (1000 : Int32) (fun _ => 0) k))), (q18, .inr (1, [.ref vq18, .int 0, .int (-1)])), (vq18, .inl (g 0, 8, .inl (fun _ => 0))), (q19, .inr (1, [.ref vq19, .int 0, .int (-1)])), (vq19, .inl (g 0, 8, .inl (fun _ => 0))), (q20, .inr (1, [.ref vq20, .int 0, .int (-1)])), (vq20, .inl (g 0, 8, .inl (fun _ => 0))), (q21, .inr (1, [.null, .int 0, .int 0]))] _ := hP
    have hD : va_D A [(h0, .inr (0, [.ref q15, .ref q16, .ref q17, .ref q1, .ref q2, .ref q3, .ref q4, .ref q5, .ref q6, .ref q7, .int 0, .int 0, .int 0, .long 0, .int 0, .int 0, .long (-1), .long (-1)])), (q1, .inl (g 0, 4, .inl (fun _ => 0))), (q2, .inl (g 0, 4, .inl (fun _ => 0))), (q3, .inl (g 0, 400, .inl (fun _ => 0))), (q4, .inl (g 1, 400, .inr (.inl (fun _ => 0)))), (q5, .inl (g 1, 9, .inr (.inl (fun _ => 0)))), (q6, .inl (g 2, 4, .inr (.inr (.inr (.inr (va_up (va_up (va_up (fun _ => none) 0 (some q18)) 1 (some q19)) 2 (some q20))))))), (q7, .inl (g 0, 29, .inl (fun _ => 0))), (q15, .inl (g 1, k, .inr (.inl (fun _ => 0)))), (q16, .inl (g 0, k, .inl (fun _ => 0))), (q17, .inl (g 0, k, .inl (m_fil (1000 : Int32) (fun _ => 0) k))), (q18, .inr (1, [.ref vq18, .int 0, .int (-1)])), (vq18, .inl (g 0, 8, .inl (fun _ => 0))), (q19, .inr (1, [.ref vq19, .int 0, .int (-1)])), (vq19, .inl (g 0, 8, .inl (fun _ => 0))), (q20, .inr (1, [.ref vq20, .int 0, .int (-1)])), (vq20, .inl (g 0, 8, .inl (fun _ => 0))), (q21, .inr (1, [.null, .int 0, .int 0]))] := hD
    refine lv_dup hx hb dX0_init_138 rfl ?_
    refine zk_xvN (rest := [.ref q21, .int 3, .ref q6]) (wr := [0, 1, 2, 3, 4, 5, 6, 7, 8, 9, 10, 11, 12, 13, 14, 15, 16].filterMap (fun i => ([(h0, .inr (0, [.ref q15, .ref q16, .ref q17, .ref q1, .ref q2, .ref q3, .ref q4, .ref q5, .ref q6, .ref q7, .int 0, .int 0, .int 0, .long 0, .int 0, .int 0, .long (-1), .long (-1)])), (q1, .inl (g 0, 4, .inl (fun _ => 0))), (q2, .inl (g 0, 4, .inl (fun _ => 0))), (q3, .inl (g 0, 400, .inl (fun _ => 0))), (q4, .inl (g 1, 400, .inr (.inl (fun _ => 0)))), (q5, .inl (g 1, 9, .inr (.inl (fun _ => 0)))), (q6, .inl (g 2, 4, .inr (.inr (.inr (.inr (va_up (va_up (va_up (fun _ => none) 0 (some q18)) 1 (some q19)) 2 (some q20))))))), (q7, .inl (g 0, 29, .inl (fun _ => 0))), (q15, .inl (g 1, k, .inr (.inl (fun _ => 0)))), (q16, .inl (g 0, k, .inl (fun _ => 0))), (q17, .inl (g 0, k, .inl (m_fil (1000 : Int32) (fun _ => 0) k))), (q18, .inr (1, [.ref vq18, .int 0, .int (-1)])), (vq18, .inl (g 0, 8, .inl (fun _ => 0))), (q19, .inr (1, [.ref vq19, .int 0, .int (-1)])), (vq19, .inl (g 0, 8, .inl (fun _ => 0))), (q20, .inr (1, [.ref vq20, .int 0, .int (-1)])), (vq20, .inl (g 0, 8, .inl (fun _ => 0))), (q21, .inr (1, [.null, .int 0, .int 0]))] : va_W)[i]?)) C0 hP hD hS (c_X1_init l D g q21) kc_X1_init ki_X1 (zN_wi hN) ks_X1_init rfl (by decide +kernel) [17] [0, 1, 2, 3, 4, 5, 6, 7, 8, 9, 10, 11, 12, 13, 14, 15, 16] rfl rfl ⟨by decide, by decide, by decide⟩ hl.1 rfl rfl (Nat.le_of_ble_eq_true rfl) ⟨(Nat.le_of_ble_eq_true rfl), (Nat.le_of_ble_eq_true rfl)⟩ rfl rfl ⟨by simp only [rm_X0_init]; omega, by simp only [rm_X0_init]; omega⟩ dX0_init_139 (fun vq21 H locs hw_139 hP hD hS => ?_)
    have hP : va_P D vwCl [(h0, .inr (0, [.ref q15, .ref q16, .ref q17, .ref q1, .ref q2, .ref q3, .ref q4, .ref q5, .ref q6, .ref q7, .int 0, .int 0, .int 0, .long 0, .int 0, .int 0, .long (-1), .long (-1)])), (q1, .inl (g 0, 4, .inl (fun _ => 0))), (q2, .inl (g 0, 4, .inl (fun _ => 0))), (q3, .inl (g 0, 400, .inl (fun _ => 0))), (q4, .inl (g 1, 400, .inr (.inl (fun _ => 0)))), (q5, .inl (g 1, 9, .inr (.inl (fun _ => 0)))), (q6, .inl (g 2, 4, .inr (.inr (.inr (.inr (va_up (va_up (va_up (fun _ => none) 0 (some q18)) 1 (some q19)) 2 (some q20))))))), (q7, .inl (g 0, 29, .inl (fun _ => 0))), (q15, .inl (g 1, k, .inr (.inl (fun _ => 0)))), (q16, .inl (g 0, k, .inl (fun _ => 0))), (q17, .inl (g 0, k, .inl (m_fil (1000 : Int32) (fun _ => 0) k))), (q18, .inr (1, [.ref vq18, .int 0, .int (-1)])), (vq18, .inl (g 0, 8, .inl (fun _ => 0))), (q19, .inr (1, [.ref vq19, .int 0, .int (-1)])), (vq19, .inl (g 0, 8, .inl (fun _ => 0))), (q20, .inr (1, [.ref vq20, .int 0, .int (-1)])), (vq20, .inl (g 0, 8, .inl (fun _ => 0))), (q21, .inr (1, [.ref vq21, .int 0, .int (-1)])), (vq21, .inl (g 0, 8, .inl (fun _ => 0)))] _ := hP
    have hD : va_D A [(h0, .inr (0, [.ref q15, .ref q16, .ref q17, .ref q1, .ref q2, .ref q3, .ref q4, .ref q5, .ref q6, .ref q7, .int 0, .int 0, .int 0, .long 0, .int 0, .int 0, .long (-1), .long (-1)])), (q1, .inl (g 0, 4, .inl (fun _ => 0))), (q2, .inl (g 0, 4, .inl (fun _ => 0))), (q3, .inl (g 0, 400, .inl (fun _ => 0))), (q4, .inl (g 1, 400, .inr (.inl (fun _ => 0)))), (q5, .inl (g 1, 9, .inr (.inl (fun _ => 0)))), (q6, .inl (g 2, 4, .inr (.inr (.inr (.inr (va_up (va_up (va_up (fun _ => none) 0 (some q18)) 1 (some q19)) 2 (some q20))))))), (q7, .inl (g 0, 29, .inl (fun _ => 0))), (q15, .inl (g 1, k, .inr (.inl (fun _ => 0)))), (q16, .inl (g 0, k, .inl (fun _ => 0))), (q17, .inl (g 0, k, .inl (m_fil (1000 : Int32) (fun _ => 0) k))), (q18, .inr (1, [.ref vq18, .int 0, .int (-1)])), (vq18, .inl (g 0, 8, .inl (fun _ => 0))), (q19, .inr (1, [.ref vq19, .int 0, .int (-1)])), (vq19, .inl (g 0, 8, .inl (fun _ => 0))), (q20, .inr (1, [.ref vq20, .int 0, .int (-1)])), (vq20, .inl (g 0, 8, .inl (fun _ => 0))), (q21, .inr (1, [.ref vq21, .int 0, .int (-1)])), (vq21, .inl (g 0, 8, .inl (fun _ => 0)))] := hD
    refine va_astq hx hb hK hP hD hS 6 2 17 1 (r := (RX1, TX1, 3)) (i := nI 3) rfl rfl rfl rfl (vp_in_nI (by decide) (by decide)) dX0_init_142 (fun H locs hP hD hS => ?_)
    have hP : va_P D vwCl [(h0, .inr (0, [.ref q15, .ref q16, .ref q17, .ref q1, .ref q2, .ref q3, .ref q4, .ref q5, .ref q6, .ref q7, .int 0, .int 0, .int 0, .long 0, .int 0, .int 0, .long (-1), .long (-1)])), (q1, .inl (g 0, 4, .inl (fun _ => 0))), (q2, .inl (g 0, 4, .inl (fun _ => 0))), (q3, .inl (g 0, 400, .inl (fun _ => 0))), (q4, .inl (g 1, 400, .inr (.inl (fun _ => 0)))), (q5, .inl (g 1, 9, .inr (.inl (fun _ => 0)))), (q6, .inl (g 2, 4, .inr (.inr (.inr (.inr (va_up (va_up (va_up (va_up (fun _ => none) 0 (some q18)) 1 (some q19)) 2 (some q20)) 3 (some q21))))))), (q7, .inl (g 0, 29, .inl (fun _ => 0))), (q15, .inl (g 1, k, .inr (.inl (fun _ => 0)))), (q16, .inl (g 0, k, .inl (fun _ => 0))), (q17, .inl (g 0, k, .inl (m_fil (1000 : Int32) (fun _ => 0) k))), (q18, .inr (1, [.ref vq18, .int 0, .int (-1)])), (vq18, .inl (g 0, 8, .inl (fun _ => 0))), (q19, .inr (1, [.ref vq19, .int 0, .int (-1)])), (vq19, .inl (g 0, 8, .inl (fun _ => 0))), (q20, .inr (1, [.ref vq20, .int 0, .int (-1)])), (vq20, .inl (g 0, 8, .inl (fun _ => 0))), (q21, .inr (1, [.ref vq21, .int 0, .int (-1)])), (vq21, .inl (g 0, 8, .inl (fun _ => 0)))] _ := hP
    have hD : va_D A [(h0, .inr (0, [.ref q15, .ref q16, .ref q17, .ref q1, .ref q2, .ref q3, .ref q4, .ref q5, .ref q6, .ref q7, .int 0, .int 0, .int 0, .long 0, .int 0, .int 0, .long (-1), .long (-1)])), (q1, .inl (g 0, 4, .inl (fun _ => 0))), (q2, .inl (g 0, 4, .inl (fun _ => 0))), (q3, .inl (g 0, 400, .inl (fun _ => 0))), (q4, .inl (g 1, 400, .inr (.inl (fun _ => 0)))), (q5, .inl (g 1, 9, .inr (.inl (fun _ => 0)))), (q6, .inl (g 2, 4, .inr (.inr (.inr (.inr (va_up (va_up (va_up (va_up (fun _ => none) 0 (some q18)) 1 (some q19)) 2 (some q20)) 3 (some q21))))))), (q7, .inl (g 0, 29, .inl (fun _ => 0))), (q15, .inl (g 1, k, .inr (.inl (fun _ => 0)))), (q16, .inl (g 0, k, .inl (fun _ => 0))), (q17, .inl (g 0, k, .inl (m_fil (1000 : Int32) (fun _ => 0) k))), (q18, .inr (1, [.ref vq18, .int 0, .int (-1)])), (vq18, .inl (g 0, 8, .inl (fun _ => 0))), (q19, .inr (1, [.ref vq19, .int 0, .int (-1)])), (vq19, .inl (g 0, 8, .inl (fun _ => 0))), (q20, .inr (1, [.ref vq20, .int 0, .int (-1)])), (vq20, .inl (g 0, 8, .inl (fun _ => 0))), (q21, .inr (1, [.ref vq21, .int 0, .int (-1)])), (vq21, .inl (g 0, 8, .inl (fun _ => 0)))] := hD
    refine lv_iinc (v := 4) (lv' := [(3, .int 4), (2, .int (nI k)), (0, .ref h0), (1, .int x)]) hx hb dX0_init_143 hl (k := 0) rfl (by decide) (by decide) rfl (fun ls hl => ?_)
    refine lv_goto (tgt := 125) hx hb dX0_init_146 (by decide) ?_
    refine lv_iload_n hx hb dX0_init_125 rfl (lv_at hl 0 rfl) ?_
    refine lv_iconst (v := 4) hx hb dX0_init_126 (by decide) ?_
    refine lv_icmp_ge (tgt := 149) hx hb dX0_init_127 (by decide) (fun _ => ?_) (fun c_127 => absurd (by decide) c_127)
    have hP := hP.sub (ws' := [(h0, .inr (0, [.ref q15, .ref q16, .ref q17, .ref q1, .ref q2, .ref q3, .ref q4, .ref q5, .ref q6, .ref q7, .int 0, .int 0, .int 0, .long 0, .int 0, .int 0, .long (-1), .long (-1)])), (q15, .inl (g 1, k, .inr (.inl (fun _ => 0)))), (q16, .inl (g 0, k, .inl (fun _ => 0))), (q17, .inl (g 0, k, .inl (m_fil (1000 : Int32) (fun _ => 0) k))), (q1, .inl (g 0, 4, .inl (fun _ => 0))), (q2, .inl (g 0, 4, .inl (fun _ => 0))), (q3, .inl (g 0, 400, .inl (fun _ => 0))), (q4, .inl (g 1, 400, .inr (.inl (fun _ => 0)))), (q5, .inl (g 1, 9, .inr (.inl (fun _ => 0)))), (q6, .inl (g 2, 4, .inr (.inr (.inr (.inr (va_up (va_up (va_up (va_up (fun _ => none) 0 (some q18)) 1 (some q19)) 2 (some q20)) 3 (some q21))))))), (q7, .inl (g 0, 29, .inl (fun _ => 0))), (q18, .inr (1, [.ref vq18, .int 0, .int (-1)])), (q19, .inr (1, [.ref vq19, .int 0, .int (-1)])), (q20, .inr (1, [.ref vq20, .int 0, .int (-1)])), (q21, .inr (1, [.ref vq21, .int 0, .int (-1)])), (vq18, .inl (g 0, 8, .inl (fun _ => 0))), (vq19, .inl (g 0, 8, .inl (fun _ => 0))), (vq20, .inl (g 0, 8, .inl (fun _ => 0))), (vq21, .inl (g 0, 8, .inl (fun _ => 0)))]) [0, 8, 9, 10, 1, 2, 3, 4, 5, 6, 7, 11, 13, 15, 17, 12, 14, 16, 18] rfl
    have hD := hD.sub (ws' := [(h0, .inr (0, [.ref q15, .ref q16, .ref q17, .ref q1, .ref q2, .ref q3, .ref q4, .ref q5, .ref q6, .ref q7, .int 0, .int 0, .int 0, .long 0, .int 0, .int 0, .long (-1), .long (-1)])), (q15, .inl (g 1, k, .inr (.inl (fun _ => 0)))), (q16, .inl (g 0, k, .inl (fun _ => 0))), (q17, .inl (g 0, k, .inl (m_fil (1000 : Int32) (fun _ => 0) k))), (q1, .inl (g 0, 4, .inl (fun _ => 0))), (q2, .inl (g 0, 4, .inl (fun _ => 0))), (q3, .inl (g 0, 400, .inl (fun _ => 0))), (q4, .inl (g 1, 400, .inr (.inl (fun _ => 0)))), (q5, .inl (g 1, 9, .inr (.inl (fun _ => 0)))), (q6, .inl (g 2, 4, .inr (.inr (.inr (.inr (va_up (va_up (va_up (va_up (fun _ => none) 0 (some q18)) 1 (some q19)) 2 (some q20)) 3 (some q21))))))), (q7, .inl (g 0, 29, .inl (fun _ => 0))), (q18, .inr (1, [.ref vq18, .int 0, .int (-1)])), (q19, .inr (1, [.ref vq19, .int 0, .int (-1)])), (q20, .inr (1, [.ref vq20, .int 0, .int (-1)])), (q21, .inr (1, [.ref vq21, .int 0, .int (-1)])), (vq18, .inl (g 0, 8, .inl (fun _ => 0))), (vq19, .inl (g 0, 8, .inl (fun _ => 0))), (vq20, .inl (g 0, 8, .inl (fun _ => 0))), (vq21, .inl (g 0, 8, .inl (fun _ => 0)))]) [0, 8, 9, 10, 1, 2, 3, 4, 5, 6, 7, 11, 13, 15, 17, 12, 14, 16, 18] (by decide) rfl
    have hP := zp_set (k := 9) (y := (g 2, 4, .inr (.inr (.inr (.inr (fun k => some ((fun i => ([h0, q15, q16, q17, q1, q2, q3, q4, q5, q6, q7, q18, q19, q20, q21, vq18, vq19, vq20, vq21] : List Nat).getD i 0) (11 + k)))))))) hP rfl (zq_cong (fun k hk => by rcases zw4 hk with rfl | rfl | rfl | rfl <;> rfl))
    have hD := zd_set (k := 9) (y := .inl (g 2, 4, .inr (.inr (.inr (.inr (fun k => some ((fun i => ([h0, q15, q16, q17, q1, q2, q3, q4, q5, q6, q7, q18, q19, q20, q21, vq18, vq19, vq20, vq21] : List Nat).getD i 0) (11 + k)))))))) hD rfl
    have hP : va_P D vwCl (wL g (fun i => ([h0, q15, q16, q17, q1, q2, q3, q4, q5, q6, q7, q18, q19, q20, q21, vq18, vq19, vq20, vq21] : List Nat).getD i 0) k (m_a0 k) m_b0 (fun _ _ => 0)) _ := hP
    have hD : va_D A (wL g (fun i => ([h0, q15, q16, q17, q1, q2, q3, q4, q5, q6, q7, q18, q19, q20, q21, vq18, vq19, vq20, vq21] : List Nat).getD i 0) k (m_a0 k) m_b0 (fun _ _ => 0)) := hD
    rw [← hkx] at hP hD
    exact hret (fun i => ([h0, q15, q16, q17, q1, q2, q3, q4, q5, q6, q7, q18, q19, q20, q21, vq18, vq19, vq20, vq21] : List Nat).getD i 0) _ _ _ _ _ _ rfl hP hD hS (by omega) (by omega) dX0_init_149
end
section
theorem dX2_init_0 : decode cX2_init 0 = .ok (.aload_n 0, 1) := by decide +kernel
theorem dX2_init_1 : decode cX2_init 1 = .ok (.invokespecial 1, 3) := by decide +kernel
theorem dX2_init_4 : decode cX2_init 4 = .ok (.aload_n 0, 1) := by decide +kernel
theorem dX2_init_5 : decode cX2_init 5 = .ok (.bipush 6, 2) := by decide +kernel
theorem dX2_init_7 : decode cX2_init 7 = .ok (.newarray .long, 2) := by decide +kernel
theorem dX2_init_9 : decode cX2_init 9 = .ok (.putfield 7, 3) := by decide +kernel
theorem dX2_init_12 : decode cX2_init 12 = .ok (.aload_n 0, 1) := by decide +kernel
theorem dX2_init_13 : decode cX2_init 13 = .ok (.bipush 6, 2) := by decide +kernel
theorem dX2_init_15 : decode cX2_init 15 = .ok (.newarray .int, 2) := by decide +kernel
theorem dX2_init_17 : decode cX2_init 17 = .ok (.putfield 13, 3) := by decide +kernel
theorem dX2_init_20 : decode cX2_init 20 = .ok (.aload_n 0, 1) := by decide +kernel
theorem dX2_init_21 : decode cX2_init 21 = .ok (.bipush 6, 2) := by decide +kernel
theorem dX2_init_23 : decode cX2_init 23 = .ok (.newarray .int, 2) := by decide +kernel
theorem dX2_init_25 : decode cX2_init 25 = .ok (.putfield 17, 3) := by decide +kernel
theorem dX2_init_28 : decode cX2_init 28 = .ok (.aload_n 0, 1) := by decide +kernel
theorem dX2_init_29 : decode cX2_init 29 = .ok (.iconst 4, 1) := by decide +kernel
theorem dX2_init_30 : decode cX2_init 30 = .ok (.newarray .int, 2) := by decide +kernel
theorem dX2_init_32 : decode cX2_init 32 = .ok (.putfield 20, 3) := by decide +kernel
theorem dX2_init_35 : decode cX2_init 35 = .ok (.aload_n 0, 1) := by decide +kernel
theorem dX2_init_36 : decode cX2_init 36 = .ok (.iconst 4, 1) := by decide +kernel
theorem dX2_init_37 : decode cX2_init 37 = .ok (.newarray .int, 2) := by decide +kernel
theorem dX2_init_39 : decode cX2_init 39 = .ok (.putfield 23, 3) := by decide +kernel
theorem dX2_init_42 : decode cX2_init 42 = .ok (.aload_n 0, 1) := by decide +kernel
theorem dX2_init_43 : decode cX2_init 43 = .ok (.sipush 400, 3) := by decide +kernel
theorem dX2_init_46 : decode cX2_init 46 = .ok (.newarray .int, 2) := by decide +kernel
theorem dX2_init_48 : decode cX2_init 48 = .ok (.putfield 26, 3) := by decide +kernel
theorem dX2_init_51 : decode cX2_init 51 = .ok (.aload_n 0, 1) := by decide +kernel
theorem dX2_init_52 : decode cX2_init 52 = .ok (.bipush 9, 2) := by decide +kernel
theorem dX2_init_54 : decode cX2_init 54 = .ok (.newarray .long, 2) := by decide +kernel
theorem dX2_init_56 : decode cX2_init 56 = .ok (.putfield 29, 3) := by decide +kernel
theorem dX2_init_59 : decode cX2_init 59 = .ok (.aload_n 0, 1) := by decide +kernel
theorem dX2_init_60 : decode cX2_init 60 = .ok (.sipush 400, 3) := by decide +kernel
theorem dX2_init_63 : decode cX2_init 63 = .ok (.newarray .long, 2) := by decide +kernel
theorem dX2_init_65 : decode cX2_init 65 = .ok (.putfield 32, 3) := by decide +kernel
theorem dX2_init_68 : decode cX2_init 68 = .ok (.aload_n 0, 1) := by decide +kernel
theorem dX2_init_69 : decode cX2_init 69 = .ok (.ldc2_w 35, 3) := by decide +kernel
theorem dX2_init_72 : decode cX2_init 72 = .ok (.putfield 37, 3) := by decide +kernel
theorem dX2_init_75 : decode cX2_init 75 = .ok (.aload_n 0, 1) := by decide +kernel
theorem dX2_init_76 : decode cX2_init 76 = .ok (.ldc2_w 35, 3) := by decide +kernel
theorem dX2_init_79 : decode cX2_init 79 = .ok (.putfield 41, 3) := by decide +kernel
theorem dX2_init_82 : decode cX2_init 82 = .ok (.aload_n 0, 1) := by decide +kernel
theorem dX2_init_83 : decode cX2_init 83 = .ok (.iconst 4, 1) := by decide +kernel
theorem dX2_init_84 : decode cX2_init 84 = .ok (.newarray .int, 2) := by decide +kernel
theorem dX2_init_86 : decode cX2_init 86 = .ok (.putfield 44, 3) := by decide +kernel
theorem dX2_init_89 : decode cX2_init 89 = .ok (.aload_n 0, 1) := by decide +kernel
theorem dX2_init_90 : decode cX2_init 90 = .ok (.bipush 32, 2) := by decide +kernel
theorem dX2_init_92 : decode cX2_init 92 = .ok (.newarray .int, 2) := by decide +kernel
theorem dX2_init_94 : decode cX2_init 94 = .ok (.putfield 47, 3) := by decide +kernel
theorem dX2_init_97 : decode cX2_init 97 = .ok (.aload_n 0, 1) := by decide +kernel
theorem dX2_init_98 : decode cX2_init 98 = .ok (.bipush 32, 2) := by decide +kernel
theorem dX2_init_100 : decode cX2_init 100 = .ok (.newarray .int, 2) := by decide +kernel
theorem dX2_init_102 : decode cX2_init 102 = .ok (.putfield 50, 3) := by decide +kernel
theorem dX2_init_105 : decode cX2_init 105 = .ok (.aload_n 0, 1) := by decide +kernel
theorem dX2_init_106 : decode cX2_init 106 = .ok (.bipush 30, 2) := by decide +kernel
theorem dX2_init_108 : decode cX2_init 108 = .ok (.newarray .long, 2) := by decide +kernel
theorem dX2_init_110 : decode cX2_init 110 = .ok (.putfield 53, 3) := by decide +kernel
theorem dX2_init_113 : decode cX2_init 113 = .ok (.aload_n 0, 1) := by decide +kernel
theorem dX2_init_114 : decode cX2_init 114 = .ok (.bipush 30, 2) := by decide +kernel
theorem dX2_init_116 : decode cX2_init 116 = .ok (.newarray .long, 2) := by decide +kernel
theorem dX2_init_118 : decode cX2_init 118 = .ok (.putfield 56, 3) := by decide +kernel
theorem dX2_init_121 : decode cX2_init 121 = .ok (.aload_n 0, 1) := by decide +kernel
theorem dX2_init_122 : decode cX2_init 122 = .ok (.iload_n 1, 1) := by decide +kernel
theorem dX2_init_123 : decode cX2_init 123 = .ok (.iconst 1, 1) := by decide +kernel
theorem dX2_init_124 : decode cX2_init 124 = .ok (.if_icmp .lt 13, 3) := by decide +kernel
theorem dX2_init_127 : decode cX2_init 127 = .ok (.iload_n 1, 1) := by decide +kernel
theorem dX2_init_128 : decode cX2_init 128 = .ok (.bipush 6, 2) := by decide +kernel
theorem dX2_init_130 : decode cX2_init 130 = .ok (.if_icmp .gt 7, 3) := by decide +kernel
theorem dX2_init_133 : decode cX2_init 133 = .ok (.iload_n 1, 1) := by decide +kernel
theorem dX2_init_134 : decode cX2_init 134 = .ok (.goto 4, 3) := by decide +kernel
theorem dX2_init_137 : decode cX2_init 137 = .ok (.iconst 1, 1) := by decide +kernel
theorem dX2_init_138 : decode cX2_init 138 = .ok (.putfield 59, 3) := by decide +kernel
theorem dX2_init_141 : decode cX2_init 141 = .ok (.iconst 0, 1) := by decide +kernel
theorem dX2_init_142 : decode cX2_init 142 = .ok (.istore_n 2, 1) := by decide +kernel
theorem dX2_init_143 : decode cX2_init 143 = .ok (.iload_n 2, 1) := by decide +kernel
theorem dX2_init_144 : decode cX2_init 144 = .ok (.bipush 6, 2) := by decide +kernel
theorem dX2_init_146 : decode cX2_init 146 = .ok (.if_icmp .ge 18, 3) := by decide +kernel
theorem dX2_init_149 : decode cX2_init 149 = .ok (.aload_n 0, 1) := by decide +kernel
theorem dX2_init_150 : decode cX2_init 150 = .ok (.getfield 17, 3) := by decide +kernel
theorem dX2_init_153 : decode cX2_init 153 = .ok (.iload_n 2, 1) := by decide +kernel
theorem dX2_init_154 : decode cX2_init 154 = .ok (.sipush 1000, 3) := by decide +kernel
theorem dX2_init_157 : decode cX2_init 157 = .ok (.iastore, 1) := by decide +kernel
theorem dX2_init_158 : decode cX2_init 158 = .ok (.iinc 2 1, 3) := by decide +kernel
theorem dX2_init_161 : decode cX2_init 161 = .ok (.goto (-18), 3) := by decide +kernel
theorem dX2_init_164 : decode cX2_init 164 = .ok (.return_, 1) := by decide +kernel
theorem dX2_layer_0 : decode cX2_layer 0 = .ok (.iload_n 1, 1) := by decide +kernel
theorem dX2_layer_1 : decode cX2_layer 1 = .ok (.i2l, 1) := by decide +kernel
theorem dX2_layer_2 : decode cX2_layer 2 = .ok (.lconst 0, 1) := by decide +kernel
theorem dX2_layer_3 : decode cX2_layer 3 = .ok (.aload_n 0, 1) := by decide +kernel
theorem dX2_layer_4 : decode cX2_layer 4 = .ok (.getfield 59, 3) := by decide +kernel
theorem dX2_layer_7 : decode cX2_layer 7 = .ok (.iconst 1, 1) := by decide +kernel
theorem dX2_layer_8 : decode cX2_layer 8 = .ok (.isub, 1) := by decide +kernel
theorem dX2_layer_9 : decode cX2_layer 9 = .ok (.i2l, 1) := by decide +kernel
theorem dX2_layer_10 : decode cX2_layer 10 = .ok (.invokestatic 63, 3) := by decide +kernel
theorem dX2_layer_13 : decode cX2_layer 13 = .ok (.ifCond .eq 22, 3) := by decide +kernel
theorem dX2_layer_16 : decode cX2_layer 16 = .ok (.iload_n 2, 1) := by decide +kernel
theorem dX2_layer_17 : decode cX2_layer 17 = .ok (.i2l, 1) := by decide +kernel
theorem dX2_layer_18 : decode cX2_layer 18 = .ok (.lconst 0, 1) := by decide +kernel
theorem dX2_layer_19 : decode cX2_layer 19 = .ok (.ldc2_w 67, 3) := by decide +kernel
theorem dX2_layer_22 : decode cX2_layer 22 = .ok (.invokestatic 63, 3) := by decide +kernel
theorem dX2_layer_25 : decode cX2_layer 25 = .ok (.ifCond .eq 10, 3) := by decide +kernel
theorem dX2_layer_28 : decode cX2_layer 28 = .ok (.iload_n 3, 1) := by decide +kernel
theorem dX2_layer_29 : decode cX2_layer 29 = .ok (.invokestatic 69, 3) := by decide +kernel
theorem dX2_layer_32 : decode cX2_layer 32 = .ok (.ifCond .ne 5, 3) := by decide +kernel
theorem dX2_layer_35 : decode cX2_layer 35 = .ok (.iconst 0, 1) := by decide +kernel
theorem dX2_layer_36 : decode cX2_layer 36 = .ok (.ireturn, 1) := by decide +kernel
theorem dX2_layer_37 : decode cX2_layer 37 = .ok (.aload_n 0, 1) := by decide +kernel
theorem dX2_layer_38 : decode cX2_layer 38 = .ok (.getfield 13, 3) := by decide +kernel
theorem dX2_layer_41 : decode cX2_layer 41 = .ok (.iload_n 1, 1) := by decide +kernel
theorem dX2_layer_42 : decode cX2_layer 42 = .ok (.iload_n 2, 1) := by decide +kernel
theorem dX2_layer_43 : decode cX2_layer 43 = .ok (.iastore, 1) := by decide +kernel
theorem dX2_layer_44 : decode cX2_layer 44 = .ok (.aload_n 0, 1) := by decide +kernel
theorem dX2_layer_45 : decode cX2_layer 45 = .ok (.getfield 17, 3) := by decide +kernel
theorem dX2_layer_48 : decode cX2_layer 48 = .ok (.iload_n 1, 1) := by decide +kernel
theorem dX2_layer_49 : decode cX2_layer 49 = .ok (.iload_n 3, 1) := by decide +kernel
theorem dX2_layer_50 : decode cX2_layer 50 = .ok (.iastore, 1) := by decide +kernel
theorem dX2_layer_51 : decode cX2_layer 51 = .ok (.iconst 1, 1) := by decide +kernel
theorem dX2_layer_52 : decode cX2_layer 52 = .ok (.ireturn, 1) := by decide +kernel
theorem dX2_isIn_0 : decode cX2_isIn 0 = .ok (.lload_n 0, 1) := by decide +kernel
theorem dX2_isIn_1 : decode cX2_isIn 1 = .ok (.lload_n 2, 1) := by decide +kernel
theorem dX2_isIn_2 : decode cX2_isIn 2 = .ok (.lcmp, 1) := by decide +kernel
theorem dX2_isIn_3 : decode cX2_isIn 3 = .ok (.ifCond .lt 14, 3) := by decide +kernel
theorem dX2_isIn_6 : decode cX2_isIn 6 = .ok (.lload_n 0, 1) := by decide +kernel
theorem dX2_isIn_7 : decode cX2_isIn 7 = .ok (.lload 4, 2) := by decide +kernel
theorem dX2_isIn_9 : decode cX2_isIn 9 = .ok (.lcmp, 1) := by decide +kernel
theorem dX2_isIn_10 : decode cX2_isIn 10 = .ok (.ifCond .gt 7, 3) := by decide +kernel
theorem dX2_isIn_13 : decode cX2_isIn 13 = .ok (.iconst 1, 1) := by decide +kernel
theorem dX2_isIn_14 : decode cX2_isIn 14 = .ok (.goto 4, 3) := by decide +kernel
theorem dX2_isIn_17 : decode cX2_isIn 17 = .ok (.iconst 0, 1) := by decide +kernel
theorem dX2_isIn_18 : decode cX2_isIn 18 = .ok (.ireturn, 1) := by decide +kernel
theorem dX2_isParts_0 : decode cX2_isParts 0 = .ok (.iload_n 0, 1) := by decide +kernel
theorem dX2_isParts_1 : decode cX2_isParts 1 = .ok (.ifCond .lt 14, 3) := by decide +kernel
theorem dX2_isParts_4 : decode cX2_isParts 4 = .ok (.iload_n 0, 1) := by decide +kernel
theorem dX2_isParts_5 : decode cX2_isParts 5 = .ok (.sipush 1000, 3) := by decide +kernel
theorem dX2_isParts_8 : decode cX2_isParts 8 = .ok (.if_icmp .gt 7, 3) := by decide +kernel
theorem dX2_isParts_11 : decode cX2_isParts 11 = .ok (.iconst 1, 1) := by decide +kernel
theorem dX2_isParts_12 : decode cX2_isParts 12 = .ok (.goto 4, 3) := by decide +kernel
theorem dX2_isParts_15 : decode cX2_isParts 15 = .ok (.iconst 0, 1) := by decide +kernel
theorem dX2_isParts_16 : decode cX2_isParts 16 = .ok (.ireturn, 1) := by decide +kernel
theorem dX2_cover_0 : decode cX2_cover 0 = .ok (.aload_n 0, 1) := by decide +kernel
theorem dX2_cover_1 : decode cX2_cover 1 = .ok (.iload_n 1, 1) := by decide +kernel
theorem dX2_cover_2 : decode cX2_cover 2 = .ok (.invokestatic 69, 3) := by decide +kernel
theorem dX2_cover_5 : decode cX2_cover 5 = .ok (.ifCond .eq 7, 3) := by decide +kernel
theorem dX2_cover_8 : decode cX2_cover 8 = .ok (.iload_n 1, 1) := by decide +kernel
theorem dX2_cover_9 : decode cX2_cover 9 = .ok (.goto 7, 3) := by decide +kernel
theorem dX2_cover_12 : decode cX2_cover 12 = .ok (.aload_n 0, 1) := by decide +kernel
theorem dX2_cover_13 : decode cX2_cover 13 = .ok (.getfield 73, 3) := by decide +kernel
theorem dX2_cover_16 : decode cX2_cover 16 = .ok (.putfield 73, 3) := by decide +kernel
theorem dX2_cover_19 : decode cX2_cover 19 = .ok (.iload_n 1, 1) := by decide +kernel
theorem dX2_cover_20 : decode cX2_cover 20 = .ok (.invokestatic 69, 3) := by decide +kernel
theorem dX2_cover_23 : decode cX2_cover 23 = .ok (.ireturn, 1) := by decide +kernel
theorem dX2_drain_0 : decode cX2_drain 0 = .ok (.aload_n 0, 1) := by decide +kernel
theorem dX2_drain_1 : decode cX2_drain 1 = .ok (.iload_n 1, 1) := by decide +kernel
theorem dX2_drain_2 : decode cX2_drain 2 = .ok (.invokestatic 69, 3) := by decide +kernel
theorem dX2_drain_5 : decode cX2_drain 5 = .ok (.ifCond .eq 7, 3) := by decide +kernel
theorem dX2_drain_8 : decode cX2_drain 8 = .ok (.iload_n 1, 1) := by decide +kernel
theorem dX2_drain_9 : decode cX2_drain 9 = .ok (.goto 7, 3) := by decide +kernel
theorem dX2_drain_12 : decode cX2_drain 12 = .ok (.aload_n 0, 1) := by decide +kernel
theorem dX2_drain_13 : decode cX2_drain 13 = .ok (.getfield 76, 3) := by decide +kernel
theorem dX2_drain_16 : decode cX2_drain 16 = .ok (.putfield 76, 3) := by decide +kernel
theorem dX2_drain_19 : decode cX2_drain 19 = .ok (.iload_n 1, 1) := by decide +kernel
theorem dX2_drain_20 : decode cX2_drain 20 = .ok (.invokestatic 69, 3) := by decide +kernel
theorem dX2_drain_23 : decode cX2_drain 23 = .ok (.ireturn, 1) := by decide +kernel
theorem dX2_back_0 : decode cX2_back 0 = .ok (.aload_n 0, 1) := by decide +kernel
theorem dX2_back_1 : decode cX2_back 1 = .ok (.iload_n 1, 1) := by decide +kernel
theorem dX2_back_2 : decode cX2_back 2 = .ok (.invokestatic 69, 3) := by decide +kernel
theorem dX2_back_5 : decode cX2_back 5 = .ok (.ifCond .eq 7, 3) := by decide +kernel
theorem dX2_back_8 : decode cX2_back 8 = .ok (.iload_n 1, 1) := by decide +kernel
theorem dX2_back_9 : decode cX2_back 9 = .ok (.goto 7, 3) := by decide +kernel
theorem dX2_back_12 : decode cX2_back 12 = .ok (.aload_n 0, 1) := by decide +kernel
theorem dX2_back_13 : decode cX2_back 13 = .ok (.getfield 79, 3) := by decide +kernel
theorem dX2_back_16 : decode cX2_back 16 = .ok (.putfield 79, 3) := by decide +kernel
theorem dX2_back_19 : decode cX2_back 19 = .ok (.iload_n 1, 1) := by decide +kernel
theorem dX2_back_20 : decode cX2_back 20 = .ok (.invokestatic 69, 3) := by decide +kernel
theorem dX2_back_23 : decode cX2_back 23 = .ok (.ireturn, 1) := by decide +kernel
theorem dX2_tank_0 : decode cX2_tank 0 = .ok (.aload_n 0, 1) := by decide +kernel
theorem dX2_tank_1 : decode cX2_tank 1 = .ok (.lload_n 1, 1) := by decide +kernel
theorem dX2_tank_2 : decode cX2_tank 2 = .ok (.lconst 0, 1) := by decide +kernel
theorem dX2_tank_3 : decode cX2_tank 3 = .ok (.ldc2_w 82, 3) := by decide +kernel
theorem dX2_tank_6 : decode cX2_tank 6 = .ok (.invokestatic 63, 3) := by decide +kernel
theorem dX2_tank_9 : decode cX2_tank 9 = .ok (.ifCond .eq 7, 3) := by decide +kernel
theorem dX2_tank_12 : decode cX2_tank 12 = .ok (.lload_n 1, 1) := by decide +kernel
theorem dX2_tank_13 : decode cX2_tank 13 = .ok (.goto 7, 3) := by decide +kernel
theorem dX2_tank_16 : decode cX2_tank 16 = .ok (.aload_n 0, 1) := by decide +kernel
theorem dX2_tank_17 : decode cX2_tank 17 = .ok (.getfield 84, 3) := by decide +kernel
theorem dX2_tank_20 : decode cX2_tank 20 = .ok (.putfield 84, 3) := by decide +kernel
theorem dX2_tank_23 : decode cX2_tank 23 = .ok (.lload_n 1, 1) := by decide +kernel
theorem dX2_tank_24 : decode cX2_tank 24 = .ok (.lconst 0, 1) := by decide +kernel
theorem dX2_tank_25 : decode cX2_tank 25 = .ok (.ldc2_w 82, 3) := by decide +kernel
theorem dX2_tank_28 : decode cX2_tank 28 = .ok (.invokestatic 63, 3) := by decide +kernel
theorem dX2_tank_31 : decode cX2_tank 31 = .ok (.ireturn, 1) := by decide +kernel
theorem dX2_stage_0 : decode cX2_stage 0 = .ok (.aload_n 0, 1) := by decide +kernel
theorem dX2_stage_1 : decode cX2_stage 1 = .ok (.getfield 87, 3) := by decide +kernel
theorem dX2_stage_4 : decode cX2_stage 4 = .ok (.iconst 4, 1) := by decide +kernel
theorem dX2_stage_5 : decode cX2_stage 5 = .ok (.if_icmp .eq 22, 3) := by decide +kernel
theorem dX2_stage_8 : decode cX2_stage 8 = .ok (.iload_n 1, 1) := by decide +kernel
theorem dX2_stage_9 : decode cX2_stage 9 = .ok (.i2l, 1) := by decide +kernel
theorem dX2_stage_10 : decode cX2_stage 10 = .ok (.lconst 0, 1) := by decide +kernel
theorem dX2_stage_11 : decode cX2_stage 11 = .ok (.ldc2_w 67, 3) := by decide +kernel
theorem dX2_stage_14 : decode cX2_stage 14 = .ok (.invokestatic 63, 3) := by decide +kernel
theorem dX2_stage_17 : decode cX2_stage 17 = .ok (.ifCond .eq 10, 3) := by decide +kernel
theorem dX2_stage_20 : decode cX2_stage 20 = .ok (.iload_n 2, 1) := by decide +kernel
theorem dX2_stage_21 : decode cX2_stage 21 = .ok (.invokestatic 69, 3) := by decide +kernel
theorem dX2_stage_24 : decode cX2_stage 24 = .ok (.ifCond .ne 5, 3) := by decide +kernel
theorem dX2_stage_27 : decode cX2_stage 27 = .ok (.iconst (-1), 1) := by decide +kernel
theorem dX2_stage_28 : decode cX2_stage 28 = .ok (.ireturn, 1) := by decide +kernel
theorem dX2_stage_29 : decode cX2_stage 29 = .ok (.aload_n 0, 1) := by decide +kernel
theorem dX2_stage_30 : decode cX2_stage 30 = .ok (.getfield 20, 3) := by decide +kernel
theorem dX2_stage_33 : decode cX2_stage 33 = .ok (.aload_n 0, 1) := by decide +kernel
theorem dX2_stage_34 : decode cX2_stage 34 = .ok (.getfield 87, 3) := by decide +kernel
theorem dX2_stage_37 : decode cX2_stage 37 = .ok (.iload_n 1, 1) := by decide +kernel
theorem dX2_stage_38 : decode cX2_stage 38 = .ok (.iastore, 1) := by decide +kernel
theorem dX2_stage_39 : decode cX2_stage 39 = .ok (.aload_n 0, 1) := by decide +kernel
theorem dX2_stage_40 : decode cX2_stage 40 = .ok (.getfield 23, 3) := by decide +kernel
theorem dX2_stage_43 : decode cX2_stage 43 = .ok (.aload_n 0, 1) := by decide +kernel
theorem dX2_stage_44 : decode cX2_stage 44 = .ok (.getfield 87, 3) := by decide +kernel
theorem dX2_stage_47 : decode cX2_stage 47 = .ok (.iload_n 2, 1) := by decide +kernel
theorem dX2_stage_48 : decode cX2_stage 48 = .ok (.iastore, 1) := by decide +kernel
theorem dX2_stage_49 : decode cX2_stage 49 = .ok (.aload_n 0, 1) := by decide +kernel
theorem dX2_stage_50 : decode cX2_stage 50 = .ok (.dup, 1) := by decide +kernel
theorem dX2_stage_51 : decode cX2_stage 51 = .ok (.getfield 87, 3) := by decide +kernel
theorem dX2_stage_54 : decode cX2_stage 54 = .ok (.iconst 1, 1) := by decide +kernel
theorem dX2_stage_55 : decode cX2_stage 55 = .ok (.iadd, 1) := by decide +kernel
theorem dX2_stage_56 : decode cX2_stage 56 = .ok (.putfield 87, 3) := by decide +kernel
theorem dX2_stage_59 : decode cX2_stage 59 = .ok (.aload_n 0, 1) := by decide +kernel
theorem dX2_stage_60 : decode cX2_stage 60 = .ok (.getfield 87, 3) := by decide +kernel
theorem dX2_stage_63 : decode cX2_stage 63 = .ok (.iconst 1, 1) := by decide +kernel
theorem dX2_stage_64 : decode cX2_stage 64 = .ok (.isub, 1) := by decide +kernel
theorem dX2_stage_65 : decode cX2_stage 65 = .ok (.ireturn, 1) := by decide +kernel
theorem dX2_rain_0 : decode cX2_rain 0 = .ok (.iload_n 1, 1) := by decide +kernel
theorem dX2_rain_1 : decode cX2_rain 1 = .ok (.i2l, 1) := by decide +kernel
theorem dX2_rain_2 : decode cX2_rain 2 = .ok (.aload_n 0, 1) := by decide +kernel
theorem dX2_rain_3 : decode cX2_rain 3 = .ok (.getfield 90, 3) := by decide +kernel
theorem dX2_rain_6 : decode cX2_rain 6 = .ok (.i2l, 1) := by decide +kernel
theorem dX2_rain_7 : decode cX2_rain 7 = .ok (.ldc2_w 93, 3) := by decide +kernel
theorem dX2_rain_10 : decode cX2_rain 10 = .ok (.invokestatic 63, 3) := by decide +kernel
theorem dX2_rain_13 : decode cX2_rain 13 = .ok (.ifCond .eq 15, 3) := by decide +kernel
theorem dX2_rain_16 : decode cX2_rain 16 = .ok (.iload_n 2, 1) := by decide +kernel
theorem dX2_rain_17 : decode cX2_rain 17 = .ok (.i2l, 1) := by decide +kernel
theorem dX2_rain_18 : decode cX2_rain 18 = .ok (.lconst 0, 1) := by decide +kernel
theorem dX2_rain_19 : decode cX2_rain 19 = .ok (.ldc2_w 67, 3) := by decide +kernel
theorem dX2_rain_22 : decode cX2_rain 22 = .ok (.invokestatic 63, 3) := by decide +kernel
theorem dX2_rain_25 : decode cX2_rain 25 = .ok (.ifCond .ne 5, 3) := by decide +kernel
theorem dX2_rain_28 : decode cX2_rain 28 = .ok (.iconst 0, 1) := by decide +kernel
theorem dX2_rain_29 : decode cX2_rain 29 = .ok (.ireturn, 1) := by decide +kernel
theorem dX2_rain_30 : decode cX2_rain 30 = .ok (.aload_n 0, 1) := by decide +kernel
theorem dX2_rain_31 : decode cX2_rain 31 = .ok (.getfield 26, 3) := by decide +kernel
theorem dX2_rain_34 : decode cX2_rain 34 = .ok (.iload_n 1, 1) := by decide +kernel
theorem dX2_rain_35 : decode cX2_rain 35 = .ok (.iload_n 2, 1) := by decide +kernel
theorem dX2_rain_36 : decode cX2_rain 36 = .ok (.iastore, 1) := by decide +kernel
theorem dX2_rain_37 : decode cX2_rain 37 = .ok (.iconst 1, 1) := by decide +kernel
theorem dX2_rain_38 : decode cX2_rain 38 = .ok (.ireturn, 1) := by decide +kernel
theorem dX2_storm_0 : decode cX2_storm 0 = .ok (.iload_n 3, 1) := by decide +kernel
theorem dX2_storm_1 : decode cX2_storm 1 = .ok (.i2l, 1) := by decide +kernel
theorem dX2_storm_2 : decode cX2_storm 2 = .ok (.lconst 1, 1) := by decide +kernel
theorem dX2_storm_3 : decode cX2_storm 3 = .ok (.ldc2_w 95, 3) := by decide +kernel
theorem dX2_storm_6 : decode cX2_storm 6 = .ok (.invokestatic 63, 3) := by decide +kernel
theorem dX2_storm_9 : decode cX2_storm 9 = .ok (.ifCond .eq 15, 3) := by decide +kernel
theorem dX2_storm_12 : decode cX2_storm 12 = .ok (.aload_n 0, 1) := by decide +kernel
theorem dX2_storm_13 : decode cX2_storm 13 = .ok (.getfield 90, 3) := by decide +kernel
theorem dX2_storm_16 : decode cX2_storm 16 = .ok (.iload_n 3, 1) := by decide +kernel
theorem dX2_storm_17 : decode cX2_storm 17 = .ok (.iadd, 1) := by decide +kernel
theorem dX2_storm_18 : decode cX2_storm 18 = .ok (.sipush 400, 3) := by decide +kernel
theorem dX2_storm_21 : decode cX2_storm 21 = .ok (.if_icmp .le 5, 3) := by decide +kernel
theorem dX2_storm_24 : decode cX2_storm 24 = .ok (.iconst 0, 1) := by decide +kernel
theorem dX2_storm_25 : decode cX2_storm 25 = .ok (.ireturn, 1) := by decide +kernel
theorem dX2_storm_26 : decode cX2_storm 26 = .ok (.lload_n 1, 1) := by decide +kernel
theorem dX2_storm_27 : decode cX2_storm 27 = .ok (.lstore 4, 2) := by decide +kernel
theorem dX2_storm_29 : decode cX2_storm 29 = .ok (.aload_n 0, 1) := by decide +kernel
theorem dX2_storm_30 : decode cX2_storm 30 = .ok (.getfield 90, 3) := by decide +kernel
theorem dX2_storm_33 : decode cX2_storm 33 = .ok (.istore 6, 2) := by decide +kernel
theorem dX2_storm_35 : decode cX2_storm 35 = .ok (.iload 6, 2) := by decide +kernel
theorem dX2_storm_37 : decode cX2_storm 37 = .ok (.aload_n 0, 1) := by decide +kernel
theorem dX2_storm_38 : decode cX2_storm 38 = .ok (.getfield 90, 3) := by decide +kernel
theorem dX2_storm_41 : decode cX2_storm 41 = .ok (.iload_n 3, 1) := by decide +kernel
theorem dX2_storm_42 : decode cX2_storm 42 = .ok (.iadd, 1) := by decide +kernel
theorem dX2_storm_43 : decode cX2_storm 43 = .ok (.if_icmp .ge 34, 3) := by decide +kernel
theorem dX2_storm_46 : decode cX2_storm 46 = .ok (.lload 4, 2) := by decide +kernel
theorem dX2_storm_48 : decode cX2_storm 48 = .ok (.ldc2_w 97, 3) := by decide +kernel
theorem dX2_storm_51 : decode cX2_storm 51 = .ok (.lmul, 1) := by decide +kernel
theorem dX2_storm_52 : decode cX2_storm 52 = .ok (.ldc2_w 99, 3) := by decide +kernel
theorem dX2_storm_55 : decode cX2_storm 55 = .ok (.ladd, 1) := by decide +kernel
theorem dX2_storm_56 : decode cX2_storm 56 = .ok (.lstore 4, 2) := by decide +kernel
theorem dX2_storm_58 : decode cX2_storm 58 = .ok (.aload_n 0, 1) := by decide +kernel
theorem dX2_storm_59 : decode cX2_storm 59 = .ok (.getfield 26, 3) := by decide +kernel
theorem dX2_storm_62 : decode cX2_storm 62 = .ok (.iload 6, 2) := by decide +kernel
theorem dX2_storm_64 : decode cX2_storm 64 = .ok (.lload 4, 2) := by decide +kernel
theorem dX2_storm_66 : decode cX2_storm 66 = .ok (.bipush 54, 2) := by decide +kernel
theorem dX2_storm_68 : decode cX2_storm 68 = .ok (.lushr, 1) := by decide +kernel
theorem dX2_storm_69 : decode cX2_storm 69 = .ok (.l2i, 1) := by decide +kernel
theorem dX2_storm_70 : decode cX2_storm 70 = .ok (.iastore, 1) := by decide +kernel
theorem dX2_storm_71 : decode cX2_storm 71 = .ok (.iinc 6 1, 3) := by decide +kernel
theorem dX2_storm_74 : decode cX2_storm 74 = .ok (.goto (-39), 3) := by decide +kernel
theorem dX2_storm_77 : decode cX2_storm 77 = .ok (.iconst 1, 1) := by decide +kernel
theorem dX2_storm_78 : decode cX2_storm 78 = .ok (.ireturn, 1) := by decide +kernel
theorem dX2_run_0 : decode cX2_run 0 = .ok (.iload_n 1, 1) := by decide +kernel
theorem dX2_run_1 : decode cX2_run 1 = .ok (.i2l, 1) := by decide +kernel
theorem dX2_run_2 : decode cX2_run 2 = .ok (.lconst 1, 1) := by decide +kernel
theorem dX2_run_3 : decode cX2_run 3 = .ok (.ldc2_w 95, 3) := by decide +kernel
theorem dX2_run_6 : decode cX2_run 6 = .ok (.invokestatic 63, 3) := by decide +kernel
theorem dX2_run_9 : decode cX2_run 9 = .ok (.ifCond .eq 15, 3) := by decide +kernel
theorem dX2_run_12 : decode cX2_run 12 = .ok (.aload_n 0, 1) := by decide +kernel
theorem dX2_run_13 : decode cX2_run 13 = .ok (.getfield 90, 3) := by decide +kernel
theorem dX2_run_16 : decode cX2_run 16 = .ok (.iload_n 1, 1) := by decide +kernel
theorem dX2_run_17 : decode cX2_run 17 = .ok (.iadd, 1) := by decide +kernel
theorem dX2_run_18 : decode cX2_run 18 = .ok (.sipush 400, 3) := by decide +kernel
theorem dX2_run_21 : decode cX2_run 21 = .ok (.if_icmp .le 5, 3) := by decide +kernel
theorem dX2_run_24 : decode cX2_run 24 = .ok (.iconst (-1), 1) := by decide +kernel
theorem dX2_run_25 : decode cX2_run 25 = .ok (.ireturn, 1) := by decide +kernel
theorem dX2_run_26 : decode cX2_run 26 = .ok (.iconst 0, 1) := by decide +kernel
theorem dX2_run_27 : decode cX2_run 27 = .ok (.istore_n 2, 1) := by decide +kernel
theorem dX2_run_28 : decode cX2_run 28 = .ok (.iload_n 2, 1) := by decide +kernel
theorem dX2_run_29 : decode cX2_run 29 = .ok (.iload_n 1, 1) := by decide +kernel
theorem dX2_run_30 : decode cX2_run 30 = .ok (.if_icmp .ge 13, 3) := by decide +kernel
theorem dX2_run_33 : decode cX2_run 33 = .ok (.aload_n 0, 1) := by decide +kernel
theorem dX2_run_34 : decode cX2_run 34 = .ok (.invokevirtual 110, 3) := by decide +kernel
theorem dX2_run_37 : decode cX2_run 37 = .ok (.iinc 2 1, 3) := by decide +kernel
theorem dX2_run_40 : decode cX2_run 40 = .ok (.goto (-12), 3) := by decide +kernel
theorem dX2_run_43 : decode cX2_run 43 = .ok (.aload_n 0, 1) := by decide +kernel
theorem dX2_run_44 : decode cX2_run 44 = .ok (.getfield 90, 3) := by decide +kernel
theorem dX2_run_47 : decode cX2_run 47 = .ok (.ireturn, 1) := by decide +kernel
theorem dX2_dayRuns_0 : decode cX2_dayRuns 0 = .ok (.aload_n 0, 1) := by decide +kernel
theorem dX2_dayRuns_1 : decode cX2_dayRuns 1 = .ok (.getfield 26, 3) := by decide +kernel
theorem dX2_dayRuns_4 : decode cX2_dayRuns 4 = .ok (.aload_n 0, 1) := by decide +kernel
theorem dX2_dayRuns_5 : decode cX2_dayRuns 5 = .ok (.getfield 90, 3) := by decide +kernel
theorem dX2_dayRuns_8 : decode cX2_dayRuns 8 = .ok (.iaload, 1) := by decide +kernel
theorem dX2_dayRuns_9 : decode cX2_dayRuns 9 = .ok (.i2l, 1) := by decide +kernel
theorem dX2_dayRuns_10 : decode cX2_dayRuns 10 = .ok (.lstore_n 1, 1) := by decide +kernel
theorem dX2_dayRuns_11 : decode cX2_dayRuns 11 = .ok (.lload_n 1, 1) := by decide +kernel
theorem dX2_dayRuns_12 : decode cX2_dayRuns 12 = .ok (.aload_n 0, 1) := by decide +kernel
theorem dX2_dayRuns_13 : decode cX2_dayRuns 13 = .ok (.getfield 73, 3) := by decide +kernel
theorem dX2_dayRuns_16 : decode cX2_dayRuns 16 = .ok (.invokestatic 103, 3) := by decide +kernel
theorem dX2_dayRuns_19 : decode cX2_dayRuns 19 = .ok (.lstore_n 3, 1) := by decide +kernel
theorem dX2_dayRuns_20 : decode cX2_dayRuns 20 = .ok (.aload_n 0, 1) := by decide +kernel
theorem dX2_dayRuns_21 : decode cX2_dayRuns 21 = .ok (.getfield 29, 3) := by decide +kernel
theorem dX2_dayRuns_24 : decode cX2_dayRuns 24 = .ok (.iconst 0, 1) := by decide +kernel
theorem dX2_dayRuns_25 : decode cX2_dayRuns 25 = .ok (.dup2, 1) := by decide +kernel
theorem dX2_dayRuns_26 : decode cX2_dayRuns 26 = .ok (.laload, 1) := by decide +kernel
theorem dX2_dayRuns_27 : decode cX2_dayRuns 27 = .ok (.lload_n 1, 1) := by decide +kernel
theorem dX2_dayRuns_28 : decode cX2_dayRuns 28 = .ok (.ladd, 1) := by decide +kernel
theorem dX2_dayRuns_29 : decode cX2_dayRuns 29 = .ok (.lastore, 1) := by decide +kernel
theorem dX2_dayRuns_30 : decode cX2_dayRuns 30 = .ok (.aload_n 0, 1) := by decide +kernel
theorem dX2_dayRuns_31 : decode cX2_dayRuns 31 = .ok (.getfield 29, 3) := by decide +kernel
theorem dX2_dayRuns_34 : decode cX2_dayRuns 34 = .ok (.iconst 1, 1) := by decide +kernel
theorem dX2_dayRuns_35 : decode cX2_dayRuns 35 = .ok (.dup2, 1) := by decide +kernel
theorem dX2_dayRuns_36 : decode cX2_dayRuns 36 = .ok (.laload, 1) := by decide +kernel
theorem dX2_dayRuns_37 : decode cX2_dayRuns 37 = .ok (.lload_n 3, 1) := by decide +kernel
theorem dX2_dayRuns_38 : decode cX2_dayRuns 38 = .ok (.ladd, 1) := by decide +kernel
theorem dX2_dayRuns_39 : decode cX2_dayRuns 39 = .ok (.lastore, 1) := by decide +kernel
theorem dX2_dayRuns_40 : decode cX2_dayRuns 40 = .ok (.aload_n 0, 1) := by decide +kernel
theorem dX2_dayRuns_41 : decode cX2_dayRuns 41 = .ok (.getfield 7, 3) := by decide +kernel
theorem dX2_dayRuns_44 : decode cX2_dayRuns 44 = .ok (.iconst 0, 1) := by decide +kernel
theorem dX2_dayRuns_45 : decode cX2_dayRuns 45 = .ok (.dup2, 1) := by decide +kernel
theorem dX2_dayRuns_46 : decode cX2_dayRuns 46 = .ok (.laload, 1) := by decide +kernel
theorem dX2_dayRuns_47 : decode cX2_dayRuns 47 = .ok (.lload_n 1, 1) := by decide +kernel
theorem dX2_dayRuns_48 : decode cX2_dayRuns 48 = .ok (.lload_n 3, 1) := by decide +kernel
theorem dX2_dayRuns_49 : decode cX2_dayRuns 49 = .ok (.lsub, 1) := by decide +kernel
theorem dX2_dayRuns_50 : decode cX2_dayRuns 50 = .ok (.aload_n 0, 1) := by decide +kernel
theorem dX2_dayRuns_51 : decode cX2_dayRuns 51 = .ok (.getfield 29, 3) := by decide +kernel
theorem dX2_dayRuns_54 : decode cX2_dayRuns 54 = .ok (.bipush 8, 2) := by decide +kernel
theorem dX2_dayRuns_56 : decode cX2_dayRuns 56 = .ok (.laload, 1) := by decide +kernel
theorem dX2_dayRuns_57 : decode cX2_dayRuns 57 = .ok (.ladd, 1) := by decide +kernel
theorem dX2_dayRuns_58 : decode cX2_dayRuns 58 = .ok (.ladd, 1) := by decide +kernel
theorem dX2_dayRuns_59 : decode cX2_dayRuns 59 = .ok (.lastore, 1) := by decide +kernel
theorem dX2_dayRuns_60 : decode cX2_dayRuns 60 = .ok (.aload_n 0, 1) := by decide +kernel
theorem dX2_dayRuns_61 : decode cX2_dayRuns 61 = .ok (.getfield 29, 3) := by decide +kernel
theorem dX2_dayRuns_64 : decode cX2_dayRuns 64 = .ok (.bipush 8, 2) := by decide +kernel
theorem dX2_dayRuns_66 : decode cX2_dayRuns 66 = .ok (.lconst 0, 1) := by decide +kernel
theorem dX2_dayRuns_67 : decode cX2_dayRuns 67 = .ok (.lastore, 1) := by decide +kernel
theorem dX2_dayRuns_68 : decode cX2_dayRuns 68 = .ok (.lconst 0, 1) := by decide +kernel
theorem dX2_dayRuns_69 : decode cX2_dayRuns 69 = .ok (.lstore 5, 2) := by decide +kernel
theorem dX2_dayRuns_71 : decode cX2_dayRuns 71 = .ok (.iconst 0, 1) := by decide +kernel
theorem dX2_dayRuns_72 : decode cX2_dayRuns 72 = .ok (.istore 7, 2) := by decide +kernel
theorem dX2_dayRuns_74 : decode cX2_dayRuns 74 = .ok (.iload 7, 2) := by decide +kernel
theorem dX2_dayRuns_76 : decode cX2_dayRuns 76 = .ok (.aload_n 0, 1) := by decide +kernel
theorem dX2_dayRuns_77 : decode cX2_dayRuns 77 = .ok (.getfield 59, 3) := by decide +kernel
theorem dX2_dayRuns_80 : decode cX2_dayRuns 80 = .ok (.if_icmp .ge 76, 3) := by decide +kernel
theorem dX2_dayRuns_83 : decode cX2_dayRuns 83 = .ok (.aload_n 0, 1) := by decide +kernel
theorem dX2_dayRuns_84 : decode cX2_dayRuns 84 = .ok (.getfield 7, 3) := by decide +kernel
theorem dX2_dayRuns_87 : decode cX2_dayRuns 87 = .ok (.iload 7, 2) := by decide +kernel
theorem dX2_dayRuns_89 : decode cX2_dayRuns 89 = .ok (.dup2, 1) := by decide +kernel
theorem dX2_dayRuns_90 : decode cX2_dayRuns 90 = .ok (.laload, 1) := by decide +kernel
theorem dX2_dayRuns_91 : decode cX2_dayRuns 91 = .ok (.lload 5, 2) := by decide +kernel
theorem dX2_dayRuns_93 : decode cX2_dayRuns 93 = .ok (.ladd, 1) := by decide +kernel
theorem dX2_dayRuns_94 : decode cX2_dayRuns 94 = .ok (.lastore, 1) := by decide +kernel
theorem dX2_dayRuns_95 : decode cX2_dayRuns 95 = .ok (.aload_n 0, 1) := by decide +kernel
theorem dX2_dayRuns_96 : decode cX2_dayRuns 96 = .ok (.getfield 7, 3) := by decide +kernel
theorem dX2_dayRuns_99 : decode cX2_dayRuns 99 = .ok (.iload 7, 2) := by decide +kernel
theorem dX2_dayRuns_101 : decode cX2_dayRuns 101 = .ok (.laload, 1) := by decide +kernel
theorem dX2_dayRuns_102 : decode cX2_dayRuns 102 = .ok (.aload_n 0, 1) := by decide +kernel
theorem dX2_dayRuns_103 : decode cX2_dayRuns 103 = .ok (.getfield 13, 3) := by decide +kernel
theorem dX2_dayRuns_106 : decode cX2_dayRuns 106 = .ok (.iload 7, 2) := by decide +kernel
theorem dX2_dayRuns_108 : decode cX2_dayRuns 108 = .ok (.iaload, 1) := by decide +kernel
theorem dX2_dayRuns_109 : decode cX2_dayRuns 109 = .ok (.i2l, 1) := by decide +kernel
theorem dX2_dayRuns_110 : decode cX2_dayRuns 110 = .ok (.lsub, 1) := by decide +kernel
theorem dX2_dayRuns_111 : decode cX2_dayRuns 111 = .ok (.lstore 8, 2) := by decide +kernel
theorem dX2_dayRuns_113 : decode cX2_dayRuns 113 = .ok (.lload 8, 2) := by decide +kernel
theorem dX2_dayRuns_115 : decode cX2_dayRuns 115 = .ok (.lconst 0, 1) := by decide +kernel
theorem dX2_dayRuns_116 : decode cX2_dayRuns 116 = .ok (.lcmp, 1) := by decide +kernel
theorem dX2_dayRuns_117 : decode cX2_dayRuns 117 = .ok (.ifCond .le 18, 3) := by decide +kernel
theorem dX2_dayRuns_120 : decode cX2_dayRuns 120 = .ok (.lload 8, 2) := by decide +kernel
theorem dX2_dayRuns_122 : decode cX2_dayRuns 122 = .ok (.aload_n 0, 1) := by decide +kernel
theorem dX2_dayRuns_123 : decode cX2_dayRuns 123 = .ok (.getfield 17, 3) := by decide +kernel
theorem dX2_dayRuns_126 : decode cX2_dayRuns 126 = .ok (.iload 7, 2) := by decide +kernel
theorem dX2_dayRuns_128 : decode cX2_dayRuns 128 = .ok (.iaload, 1) := by decide +kernel
theorem dX2_dayRuns_129 : decode cX2_dayRuns 129 = .ok (.invokestatic 103, 3) := by decide +kernel
theorem dX2_dayRuns_132 : decode cX2_dayRuns 132 = .ok (.goto 4, 3) := by decide +kernel
theorem dX2_dayRuns_135 : decode cX2_dayRuns 135 = .ok (.lconst 0, 1) := by decide +kernel
theorem dX2_dayRuns_136 : decode cX2_dayRuns 136 = .ok (.lstore 5, 2) := by decide +kernel
theorem dX2_dayRuns_138 : decode cX2_dayRuns 138 = .ok (.aload_n 0, 1) := by decide +kernel
theorem dX2_dayRuns_139 : decode cX2_dayRuns 139 = .ok (.getfield 7, 3) := by decide +kernel
theorem dX2_dayRuns_142 : decode cX2_dayRuns 142 = .ok (.iload 7, 2) := by decide +kernel
theorem dX2_dayRuns_144 : decode cX2_dayRuns 144 = .ok (.dup2, 1) := by decide +kernel
theorem dX2_dayRuns_145 : decode cX2_dayRuns 145 = .ok (.laload, 1) := by decide +kernel
theorem dX2_dayRuns_146 : decode cX2_dayRuns 146 = .ok (.lload 5, 2) := by decide +kernel
theorem dX2_dayRuns_148 : decode cX2_dayRuns 148 = .ok (.lsub, 1) := by decide +kernel
theorem dX2_dayRuns_149 : decode cX2_dayRuns 149 = .ok (.lastore, 1) := by decide +kernel
theorem dX2_dayRuns_150 : decode cX2_dayRuns 150 = .ok (.iinc 7 1, 3) := by decide +kernel
theorem dX2_dayRuns_153 : decode cX2_dayRuns 153 = .ok (.goto (-79), 3) := by decide +kernel
theorem dX2_dayRuns_156 : decode cX2_dayRuns 156 = .ok (.aload_n 0, 1) := by decide +kernel
theorem dX2_dayRuns_157 : decode cX2_dayRuns 157 = .ok (.getfield 29, 3) := by decide +kernel
theorem dX2_dayRuns_160 : decode cX2_dayRuns 160 = .ok (.iconst 2, 1) := by decide +kernel
theorem dX2_dayRuns_161 : decode cX2_dayRuns 161 = .ok (.dup2, 1) := by decide +kernel
theorem dX2_dayRuns_162 : decode cX2_dayRuns 162 = .ok (.laload, 1) := by decide +kernel
theorem dX2_dayRuns_163 : decode cX2_dayRuns 163 = .ok (.lload 5, 2) := by decide +kernel
theorem dX2_dayRuns_165 : decode cX2_dayRuns 165 = .ok (.ladd, 1) := by decide +kernel
theorem dX2_dayRuns_166 : decode cX2_dayRuns 166 = .ok (.lastore, 1) := by decide +kernel
theorem dX2_dayRuns_167 : decode cX2_dayRuns 167 = .ok (.lload 5, 2) := by decide +kernel
theorem dX2_dayRuns_169 : decode cX2_dayRuns 169 = .ok (.aload_n 0, 1) := by decide +kernel
theorem dX2_dayRuns_170 : decode cX2_dayRuns 170 = .ok (.getfield 76, 3) := by decide +kernel
theorem dX2_dayRuns_173 : decode cX2_dayRuns 173 = .ok (.invokestatic 103, 3) := by decide +kernel
theorem dX2_dayRuns_176 : decode cX2_dayRuns 176 = .ok (.lstore 7, 2) := by decide +kernel
theorem dX2_dayRuns_178 : decode cX2_dayRuns 178 = .ok (.aload_n 0, 1) := by decide +kernel
theorem dX2_dayRuns_179 : decode cX2_dayRuns 179 = .ok (.getfield 29, 3) := by decide +kernel
theorem dX2_dayRuns_182 : decode cX2_dayRuns 182 = .ok (.iconst 3, 1) := by decide +kernel
theorem dX2_dayRuns_183 : decode cX2_dayRuns 183 = .ok (.dup2, 1) := by decide +kernel
theorem dX2_dayRuns_184 : decode cX2_dayRuns 184 = .ok (.laload, 1) := by decide +kernel
theorem dX2_dayRuns_185 : decode cX2_dayRuns 185 = .ok (.lload 5, 2) := by decide +kernel
theorem dX2_dayRuns_187 : decode cX2_dayRuns 187 = .ok (.lload 7, 2) := by decide +kernel
theorem dX2_dayRuns_189 : decode cX2_dayRuns 189 = .ok (.lsub, 1) := by decide +kernel
theorem dX2_dayRuns_190 : decode cX2_dayRuns 190 = .ok (.ladd, 1) := by decide +kernel
theorem dX2_dayRuns_191 : decode cX2_dayRuns 191 = .ok (.lastore, 1) := by decide +kernel
theorem dX2_dayRuns_192 : decode cX2_dayRuns 192 = .ok (.aload_n 0, 1) := by decide +kernel
theorem dX2_dayRuns_193 : decode cX2_dayRuns 193 = .ok (.getfield 29, 3) := by decide +kernel
theorem dX2_dayRuns_196 : decode cX2_dayRuns 196 = .ok (.bipush 7, 2) := by decide +kernel
theorem dX2_dayRuns_198 : decode cX2_dayRuns 198 = .ok (.dup2, 1) := by decide +kernel
theorem dX2_dayRuns_199 : decode cX2_dayRuns 199 = .ok (.laload, 1) := by decide +kernel
theorem dX2_dayRuns_200 : decode cX2_dayRuns 200 = .ok (.lload 7, 2) := by decide +kernel
theorem dX2_dayRuns_202 : decode cX2_dayRuns 202 = .ok (.ladd, 1) := by decide +kernel
theorem dX2_dayRuns_203 : decode cX2_dayRuns 203 = .ok (.lastore, 1) := by decide +kernel
theorem dX2_dayRuns_204 : decode cX2_dayRuns 204 = .ok (.aload_n 0, 1) := by decide +kernel
theorem dX2_dayRuns_205 : decode cX2_dayRuns 205 = .ok (.getfield 29, 3) := by decide +kernel
theorem dX2_dayRuns_208 : decode cX2_dayRuns 208 = .ok (.bipush 7, 2) := by decide +kernel
theorem dX2_dayRuns_210 : decode cX2_dayRuns 210 = .ok (.laload, 1) := by decide +kernel
theorem dX2_dayRuns_211 : decode cX2_dayRuns 211 = .ok (.aload_n 0, 1) := by decide +kernel
theorem dX2_dayRuns_212 : decode cX2_dayRuns 212 = .ok (.getfield 84, 3) := by decide +kernel
theorem dX2_dayRuns_215 : decode cX2_dayRuns 215 = .ok (.lcmp, 1) := by decide +kernel
theorem dX2_dayRuns_216 : decode cX2_dayRuns 216 = .ok (.ifCond .le 18, 3) := by decide +kernel
theorem dX2_dayRuns_219 : decode cX2_dayRuns 219 = .ok (.aload_n 0, 1) := by decide +kernel
theorem dX2_dayRuns_220 : decode cX2_dayRuns 220 = .ok (.getfield 29, 3) := by decide +kernel
theorem dX2_dayRuns_223 : decode cX2_dayRuns 223 = .ok (.bipush 7, 2) := by decide +kernel
theorem dX2_dayRuns_225 : decode cX2_dayRuns 225 = .ok (.laload, 1) := by decide +kernel
theorem dX2_dayRuns_226 : decode cX2_dayRuns 226 = .ok (.aload_n 0, 1) := by decide +kernel
theorem dX2_dayRuns_227 : decode cX2_dayRuns 227 = .ok (.getfield 84, 3) := by decide +kernel
theorem dX2_dayRuns_230 : decode cX2_dayRuns 230 = .ok (.lsub, 1) := by decide +kernel
theorem dX2_dayRuns_231 : decode cX2_dayRuns 231 = .ok (.goto 4, 3) := by decide +kernel
theorem dX2_dayRuns_234 : decode cX2_dayRuns 234 = .ok (.lconst 0, 1) := by decide +kernel
theorem dX2_dayRuns_235 : decode cX2_dayRuns 235 = .ok (.lstore 9, 2) := by decide +kernel
theorem dX2_dayRuns_237 : decode cX2_dayRuns 237 = .ok (.aload_n 0, 1) := by decide +kernel
theorem dX2_dayRuns_238 : decode cX2_dayRuns 238 = .ok (.getfield 29, 3) := by decide +kernel
theorem dX2_dayRuns_241 : decode cX2_dayRuns 241 = .ok (.iconst 4, 1) := by decide +kernel
theorem dX2_dayRuns_242 : decode cX2_dayRuns 242 = .ok (.dup2, 1) := by decide +kernel
theorem dX2_dayRuns_243 : decode cX2_dayRuns 243 = .ok (.laload, 1) := by decide +kernel
theorem dX2_dayRuns_244 : decode cX2_dayRuns 244 = .ok (.lload 9, 2) := by decide +kernel
theorem dX2_dayRuns_246 : decode cX2_dayRuns 246 = .ok (.ladd, 1) := by decide +kernel
theorem dX2_dayRuns_247 : decode cX2_dayRuns 247 = .ok (.lastore, 1) := by decide +kernel
theorem dX2_dayRuns_248 : decode cX2_dayRuns 248 = .ok (.aload_n 0, 1) := by decide +kernel
theorem dX2_dayRuns_249 : decode cX2_dayRuns 249 = .ok (.getfield 29, 3) := by decide +kernel
theorem dX2_dayRuns_252 : decode cX2_dayRuns 252 = .ok (.bipush 7, 2) := by decide +kernel
theorem dX2_dayRuns_254 : decode cX2_dayRuns 254 = .ok (.dup2, 1) := by decide +kernel
theorem dX2_dayRuns_255 : decode cX2_dayRuns 255 = .ok (.laload, 1) := by decide +kernel
theorem dX2_dayRuns_256 : decode cX2_dayRuns 256 = .ok (.lload 9, 2) := by decide +kernel
theorem dX2_dayRuns_258 : decode cX2_dayRuns 258 = .ok (.lsub, 1) := by decide +kernel
theorem dX2_dayRuns_259 : decode cX2_dayRuns 259 = .ok (.lastore, 1) := by decide +kernel
theorem dX2_dayRuns_260 : decode cX2_dayRuns 260 = .ok (.aload_n 0, 1) := by decide +kernel
theorem dX2_dayRuns_261 : decode cX2_dayRuns 261 = .ok (.getfield 32, 3) := by decide +kernel
theorem dX2_dayRuns_264 : decode cX2_dayRuns 264 = .ok (.aload_n 0, 1) := by decide +kernel
theorem dX2_dayRuns_265 : decode cX2_dayRuns 265 = .ok (.getfield 90, 3) := by decide +kernel
theorem dX2_dayRuns_268 : decode cX2_dayRuns 268 = .ok (.lconst 0, 1) := by decide +kernel
theorem dX2_dayRuns_269 : decode cX2_dayRuns 269 = .ok (.lastore, 1) := by decide +kernel
theorem dX2_dayRuns_270 : decode cX2_dayRuns 270 = .ok (.aload_n 0, 1) := by decide +kernel
theorem dX2_dayRuns_271 : decode cX2_dayRuns 271 = .ok (.invokevirtual 107, 3) := by decide +kernel
theorem dX2_dayRuns_274 : decode cX2_dayRuns 274 = .ok (.aload_n 0, 1) := by decide +kernel
theorem dX2_dayRuns_275 : decode cX2_dayRuns 275 = .ok (.dup, 1) := by decide +kernel
theorem dX2_dayRuns_276 : decode cX2_dayRuns 276 = .ok (.getfield 90, 3) := by decide +kernel
theorem dX2_dayRuns_279 : decode cX2_dayRuns 279 = .ok (.iconst 1, 1) := by decide +kernel
theorem dX2_dayRuns_280 : decode cX2_dayRuns 280 = .ok (.iadd, 1) := by decide +kernel
theorem dX2_dayRuns_281 : decode cX2_dayRuns 281 = .ok (.putfield 90, 3) := by decide +kernel
theorem dX2_dayRuns_284 : decode cX2_dayRuns 284 = .ok (.return_, 1) := by decide +kernel
theorem dX2_partsOf_0 : decode cX2_partsOf 0 = .ok (.lload_n 0, 1) := by decide +kernel
theorem dX2_partsOf_1 : decode cX2_partsOf 1 = .ok (.iload_n 2, 1) := by decide +kernel
theorem dX2_partsOf_2 : decode cX2_partsOf 2 = .ok (.i2l, 1) := by decide +kernel
theorem dX2_partsOf_3 : decode cX2_partsOf 3 = .ok (.lmul, 1) := by decide +kernel
theorem dX2_partsOf_4 : decode cX2_partsOf 4 = .ok (.ldc2_w 101, 3) := by decide +kernel
theorem dX2_partsOf_7 : decode cX2_partsOf 7 = .ok (.ldiv, 1) := by decide +kernel
theorem dX2_partsOf_8 : decode cX2_partsOf 8 = .ok (.lreturn, 1) := by decide +kernel
theorem dX2_stagesRun_0 : decode cX2_stagesRun 0 = .ok (.aload_n 0, 1) := by decide +kernel
theorem dX2_stagesRun_1 : decode cX2_stagesRun 1 = .ok (.getfield 87, 3) := by decide +kernel
theorem dX2_stagesRun_4 : decode cX2_stagesRun 4 = .ok (.ifCond .ne 4, 3) := by decide +kernel
theorem dX2_stagesRun_7 : decode cX2_stagesRun 7 = .ok (.return_, 1) := by decide +kernel
theorem dX2_stagesRun_8 : decode cX2_stagesRun 8 = .ok (.aload_n 0, 1) := by decide +kernel
theorem dX2_stagesRun_9 : decode cX2_stagesRun 9 = .ok (.getfield 29, 3) := by decide +kernel
theorem dX2_stagesRun_12 : decode cX2_stagesRun 12 = .ok (.bipush 7, 2) := by decide +kernel
theorem dX2_stagesRun_14 : decode cX2_stagesRun 14 = .ok (.laload, 1) := by decide +kernel
theorem dX2_stagesRun_15 : decode cX2_stagesRun 15 = .ok (.lstore_n 1, 1) := by decide +kernel
theorem dX2_stagesRun_16 : decode cX2_stagesRun 16 = .ok (.lconst 0, 1) := by decide +kernel
theorem dX2_stagesRun_17 : decode cX2_stagesRun 17 = .ok (.lstore_n 3, 1) := by decide +kernel
theorem dX2_stagesRun_18 : decode cX2_stagesRun 18 = .ok (.iconst 0, 1) := by decide +kernel
theorem dX2_stagesRun_19 : decode cX2_stagesRun 19 = .ok (.istore 5, 2) := by decide +kernel
theorem dX2_stagesRun_21 : decode cX2_stagesRun 21 = .ok (.iload 5, 2) := by decide +kernel
theorem dX2_stagesRun_23 : decode cX2_stagesRun 23 = .ok (.aload_n 0, 1) := by decide +kernel
theorem dX2_stagesRun_24 : decode cX2_stagesRun 24 = .ok (.getfield 87, 3) := by decide +kernel
theorem dX2_stagesRun_27 : decode cX2_stagesRun 27 = .ok (.if_icmp .ge 74, 3) := by decide +kernel
theorem dX2_stagesRun_30 : decode cX2_stagesRun 30 = .ok (.lload_n 1, 1) := by decide +kernel
theorem dX2_stagesRun_31 : decode cX2_stagesRun 31 = .ok (.aload_n 0, 1) := by decide +kernel
theorem dX2_stagesRun_32 : decode cX2_stagesRun 32 = .ok (.getfield 20, 3) := by decide +kernel
theorem dX2_stagesRun_35 : decode cX2_stagesRun 35 = .ok (.iload 5, 2) := by decide +kernel
theorem dX2_stagesRun_37 : decode cX2_stagesRun 37 = .ok (.iaload, 1) := by decide +kernel
theorem dX2_stagesRun_38 : decode cX2_stagesRun 38 = .ok (.i2l, 1) := by decide +kernel
theorem dX2_stagesRun_39 : decode cX2_stagesRun 39 = .ok (.lcmp, 1) := by decide +kernel
theorem dX2_stagesRun_40 : decode cX2_stagesRun 40 = .ok (.ifCond .ge 7, 3) := by decide +kernel
theorem dX2_stagesRun_43 : decode cX2_stagesRun 43 = .ok (.lload_n 1, 1) := by decide +kernel
theorem dX2_stagesRun_44 : decode cX2_stagesRun 44 = .ok (.goto 11, 3) := by decide +kernel
theorem dX2_stagesRun_47 : decode cX2_stagesRun 47 = .ok (.aload_n 0, 1) := by decide +kernel
theorem dX2_stagesRun_48 : decode cX2_stagesRun 48 = .ok (.getfield 20, 3) := by decide +kernel
theorem dX2_stagesRun_51 : decode cX2_stagesRun 51 = .ok (.iload 5, 2) := by decide +kernel
theorem dX2_stagesRun_53 : decode cX2_stagesRun 53 = .ok (.iaload, 1) := by decide +kernel
theorem dX2_stagesRun_54 : decode cX2_stagesRun 54 = .ok (.i2l, 1) := by decide +kernel
theorem dX2_stagesRun_55 : decode cX2_stagesRun 55 = .ok (.lstore 6, 2) := by decide +kernel
theorem dX2_stagesRun_57 : decode cX2_stagesRun 57 = .ok (.lload_n 3, 1) := by decide +kernel
theorem dX2_stagesRun_58 : decode cX2_stagesRun 58 = .ok (.lload_n 1, 1) := by decide +kernel
theorem dX2_stagesRun_59 : decode cX2_stagesRun 59 = .ok (.lload 6, 2) := by decide +kernel
theorem dX2_stagesRun_61 : decode cX2_stagesRun 61 = .ok (.lsub, 1) := by decide +kernel
theorem dX2_stagesRun_62 : decode cX2_stagesRun 62 = .ok (.ladd, 1) := by decide +kernel
theorem dX2_stagesRun_63 : decode cX2_stagesRun 63 = .ok (.lstore_n 3, 1) := by decide +kernel
theorem dX2_stagesRun_64 : decode cX2_stagesRun 64 = .ok (.lload 6, 2) := by decide +kernel
theorem dX2_stagesRun_66 : decode cX2_stagesRun 66 = .ok (.aload_n 0, 1) := by decide +kernel
theorem dX2_stagesRun_67 : decode cX2_stagesRun 67 = .ok (.getfield 23, 3) := by decide +kernel
theorem dX2_stagesRun_70 : decode cX2_stagesRun 70 = .ok (.iload 5, 2) := by decide +kernel
theorem dX2_stagesRun_72 : decode cX2_stagesRun 72 = .ok (.iaload, 1) := by decide +kernel
theorem dX2_stagesRun_73 : decode cX2_stagesRun 73 = .ok (.invokestatic 103, 3) := by decide +kernel
theorem dX2_stagesRun_76 : decode cX2_stagesRun 76 = .ok (.lstore 8, 2) := by decide +kernel
theorem dX2_stagesRun_78 : decode cX2_stagesRun 78 = .ok (.aload_n 0, 1) := by decide +kernel
theorem dX2_stagesRun_79 : decode cX2_stagesRun 79 = .ok (.getfield 29, 3) := by decide +kernel
theorem dX2_stagesRun_82 : decode cX2_stagesRun 82 = .ok (.iconst 5, 1) := by decide +kernel
theorem dX2_stagesRun_83 : decode cX2_stagesRun 83 = .ok (.dup2, 1) := by decide +kernel
theorem dX2_stagesRun_84 : decode cX2_stagesRun 84 = .ok (.laload, 1) := by decide +kernel
theorem dX2_stagesRun_85 : decode cX2_stagesRun 85 = .ok (.lload 8, 2) := by decide +kernel
theorem dX2_stagesRun_87 : decode cX2_stagesRun 87 = .ok (.ladd, 1) := by decide +kernel
theorem dX2_stagesRun_88 : decode cX2_stagesRun 88 = .ok (.lastore, 1) := by decide +kernel
theorem dX2_stagesRun_89 : decode cX2_stagesRun 89 = .ok (.lload 6, 2) := by decide +kernel
theorem dX2_stagesRun_91 : decode cX2_stagesRun 91 = .ok (.lload 8, 2) := by decide +kernel
theorem dX2_stagesRun_93 : decode cX2_stagesRun 93 = .ok (.lsub, 1) := by decide +kernel
theorem dX2_stagesRun_94 : decode cX2_stagesRun 94 = .ok (.lstore_n 1, 1) := by decide +kernel
theorem dX2_stagesRun_95 : decode cX2_stagesRun 95 = .ok (.iinc 5 1, 3) := by decide +kernel
theorem dX2_stagesRun_98 : decode cX2_stagesRun 98 = .ok (.goto (-77), 3) := by decide +kernel
theorem dX2_stagesRun_101 : decode cX2_stagesRun 101 = .ok (.aload_n 0, 1) := by decide +kernel
theorem dX2_stagesRun_102 : decode cX2_stagesRun 102 = .ok (.getfield 29, 3) := by decide +kernel
theorem dX2_stagesRun_105 : decode cX2_stagesRun 105 = .ok (.bipush 7, 2) := by decide +kernel
theorem dX2_stagesRun_107 : decode cX2_stagesRun 107 = .ok (.lload_n 3, 1) := by decide +kernel
theorem dX2_stagesRun_108 : decode cX2_stagesRun 108 = .ok (.lastore, 1) := by decide +kernel
theorem dX2_stagesRun_109 : decode cX2_stagesRun 109 = .ok (.aload_n 0, 1) := by decide +kernel
theorem dX2_stagesRun_110 : decode cX2_stagesRun 110 = .ok (.getfield 29, 3) := by decide +kernel
theorem dX2_stagesRun_113 : decode cX2_stagesRun 113 = .ok (.bipush 8, 2) := by decide +kernel
theorem dX2_stagesRun_115 : decode cX2_stagesRun 115 = .ok (.lload_n 1, 1) := by decide +kernel
theorem dX2_stagesRun_116 : decode cX2_stagesRun 116 = .ok (.aload_n 0, 1) := by decide +kernel
theorem dX2_stagesRun_117 : decode cX2_stagesRun 117 = .ok (.getfield 79, 3) := by decide +kernel
theorem dX2_stagesRun_120 : decode cX2_stagesRun 120 = .ok (.invokestatic 103, 3) := by decide +kernel
theorem dX2_stagesRun_123 : decode cX2_stagesRun 123 = .ok (.lastore, 1) := by decide +kernel
theorem dX2_stagesRun_124 : decode cX2_stagesRun 124 = .ok (.aload_n 0, 1) := by decide +kernel
theorem dX2_stagesRun_125 : decode cX2_stagesRun 125 = .ok (.getfield 32, 3) := by decide +kernel
theorem dX2_stagesRun_128 : decode cX2_stagesRun 128 = .ok (.aload_n 0, 1) := by decide +kernel
theorem dX2_stagesRun_129 : decode cX2_stagesRun 129 = .ok (.getfield 90, 3) := by decide +kernel
theorem dX2_stagesRun_132 : decode cX2_stagesRun 132 = .ok (.lload_n 1, 1) := by decide +kernel
theorem dX2_stagesRun_133 : decode cX2_stagesRun 133 = .ok (.aload_n 0, 1) := by decide +kernel
theorem dX2_stagesRun_134 : decode cX2_stagesRun 134 = .ok (.getfield 29, 3) := by decide +kernel
theorem dX2_stagesRun_137 : decode cX2_stagesRun 137 = .ok (.bipush 8, 2) := by decide +kernel
theorem dX2_stagesRun_139 : decode cX2_stagesRun 139 = .ok (.laload, 1) := by decide +kernel
theorem dX2_stagesRun_140 : decode cX2_stagesRun 140 = .ok (.lsub, 1) := by decide +kernel
theorem dX2_stagesRun_141 : decode cX2_stagesRun 141 = .ok (.lastore, 1) := by decide +kernel
theorem dX2_stagesRun_142 : decode cX2_stagesRun 142 = .ok (.aload_n 0, 1) := by decide +kernel
theorem dX2_stagesRun_143 : decode cX2_stagesRun 143 = .ok (.getfield 29, 3) := by decide +kernel
theorem dX2_stagesRun_146 : decode cX2_stagesRun 146 = .ok (.bipush 6, 2) := by decide +kernel
theorem dX2_stagesRun_148 : decode cX2_stagesRun 148 = .ok (.dup2, 1) := by decide +kernel
theorem dX2_stagesRun_149 : decode cX2_stagesRun 149 = .ok (.laload, 1) := by decide +kernel
theorem dX2_stagesRun_150 : decode cX2_stagesRun 150 = .ok (.aload_n 0, 1) := by decide +kernel
theorem dX2_stagesRun_151 : decode cX2_stagesRun 151 = .ok (.getfield 32, 3) := by decide +kernel
theorem dX2_stagesRun_154 : decode cX2_stagesRun 154 = .ok (.aload_n 0, 1) := by decide +kernel
theorem dX2_stagesRun_155 : decode cX2_stagesRun 155 = .ok (.getfield 90, 3) := by decide +kernel
theorem dX2_stagesRun_158 : decode cX2_stagesRun 158 = .ok (.laload, 1) := by decide +kernel
theorem dX2_stagesRun_159 : decode cX2_stagesRun 159 = .ok (.ladd, 1) := by decide +kernel
theorem dX2_stagesRun_160 : decode cX2_stagesRun 160 = .ok (.lastore, 1) := by decide +kernel
theorem dX2_stagesRun_161 : decode cX2_stagesRun 161 = .ok (.return_, 1) := by decide +kernel
theorem dX2_held_0 : decode cX2_held 0 = .ok (.iload_n 1, 1) := by decide +kernel
theorem dX2_held_1 : decode cX2_held 1 = .ok (.i2l, 1) := by decide +kernel
theorem dX2_held_2 : decode cX2_held 2 = .ok (.lconst 0, 1) := by decide +kernel
theorem dX2_held_3 : decode cX2_held 3 = .ok (.aload_n 0, 1) := by decide +kernel
theorem dX2_held_4 : decode cX2_held 4 = .ok (.getfield 59, 3) := by decide +kernel
theorem dX2_held_7 : decode cX2_held 7 = .ok (.iconst 1, 1) := by decide +kernel
theorem dX2_held_8 : decode cX2_held 8 = .ok (.isub, 1) := by decide +kernel
theorem dX2_held_9 : decode cX2_held 9 = .ok (.i2l, 1) := by decide +kernel
theorem dX2_held_10 : decode cX2_held 10 = .ok (.invokestatic 63, 3) := by decide +kernel
theorem dX2_held_13 : decode cX2_held 13 = .ok (.ifCond .eq 12, 3) := by decide +kernel
theorem dX2_held_16 : decode cX2_held 16 = .ok (.aload_n 0, 1) := by decide +kernel
theorem dX2_held_17 : decode cX2_held 17 = .ok (.getfield 7, 3) := by decide +kernel
theorem dX2_held_20 : decode cX2_held 20 = .ok (.iload_n 1, 1) := by decide +kernel
theorem dX2_held_21 : decode cX2_held 21 = .ok (.laload, 1) := by decide +kernel
theorem dX2_held_22 : decode cX2_held 22 = .ok (.goto 6, 3) := by decide +kernel
theorem dX2_held_25 : decode cX2_held 25 = .ok (.ldc2_w 35, 3) := by decide +kernel
theorem dX2_held_28 : decode cX2_held 28 = .ok (.lreturn, 1) := by decide +kernel
theorem dX2_out_0 : decode cX2_out 0 = .ok (.iload_n 1, 1) := by decide +kernel
theorem dX2_out_1 : decode cX2_out 1 = .ok (.i2l, 1) := by decide +kernel
theorem dX2_out_2 : decode cX2_out 2 = .ok (.lconst 0, 1) := by decide +kernel
theorem dX2_out_3 : decode cX2_out 3 = .ok (.ldc2_w 113, 3) := by decide +kernel
theorem dX2_out_6 : decode cX2_out 6 = .ok (.invokestatic 63, 3) := by decide +kernel
theorem dX2_out_9 : decode cX2_out 9 = .ok (.ifCond .eq 12, 3) := by decide +kernel
theorem dX2_out_12 : decode cX2_out 12 = .ok (.aload_n 0, 1) := by decide +kernel
theorem dX2_out_13 : decode cX2_out 13 = .ok (.getfield 29, 3) := by decide +kernel
theorem dX2_out_16 : decode cX2_out 16 = .ok (.iload_n 1, 1) := by decide +kernel
theorem dX2_out_17 : decode cX2_out 17 = .ok (.laload, 1) := by decide +kernel
theorem dX2_out_18 : decode cX2_out 18 = .ok (.goto 6, 3) := by decide +kernel
theorem dX2_out_21 : decode cX2_out 21 = .ok (.ldc2_w 35, 3) := by decide +kernel
theorem dX2_out_24 : decode cX2_out 24 = .ok (.lreturn, 1) := by decide +kernel
theorem dX2_balance_0 : decode cX2_balance 0 = .ok (.aload_n 0, 1) := by decide +kernel
theorem dX2_balance_1 : decode cX2_balance 1 = .ok (.getfield 29, 3) := by decide +kernel
theorem dX2_balance_4 : decode cX2_balance 4 = .ok (.iconst 0, 1) := by decide +kernel
theorem dX2_balance_5 : decode cX2_balance 5 = .ok (.laload, 1) := by decide +kernel
theorem dX2_balance_6 : decode cX2_balance 6 = .ok (.aload_n 0, 1) := by decide +kernel
theorem dX2_balance_7 : decode cX2_balance 7 = .ok (.getfield 29, 3) := by decide +kernel
theorem dX2_balance_10 : decode cX2_balance 10 = .ok (.iconst 1, 1) := by decide +kernel
theorem dX2_balance_11 : decode cX2_balance 11 = .ok (.laload, 1) := by decide +kernel
theorem dX2_balance_12 : decode cX2_balance 12 = .ok (.lsub, 1) := by decide +kernel
theorem dX2_balance_13 : decode cX2_balance 13 = .ok (.aload_n 0, 1) := by decide +kernel
theorem dX2_balance_14 : decode cX2_balance 14 = .ok (.getfield 29, 3) := by decide +kernel
theorem dX2_balance_17 : decode cX2_balance 17 = .ok (.iconst 3, 1) := by decide +kernel
theorem dX2_balance_18 : decode cX2_balance 18 = .ok (.laload, 1) := by decide +kernel
theorem dX2_balance_19 : decode cX2_balance 19 = .ok (.lsub, 1) := by decide +kernel
theorem dX2_balance_20 : decode cX2_balance 20 = .ok (.aload_n 0, 1) := by decide +kernel
theorem dX2_balance_21 : decode cX2_balance 21 = .ok (.getfield 29, 3) := by decide +kernel
theorem dX2_balance_24 : decode cX2_balance 24 = .ok (.iconst 4, 1) := by decide +kernel
theorem dX2_balance_25 : decode cX2_balance 25 = .ok (.laload, 1) := by decide +kernel
theorem dX2_balance_26 : decode cX2_balance 26 = .ok (.lsub, 1) := by decide +kernel
theorem dX2_balance_27 : decode cX2_balance 27 = .ok (.aload_n 0, 1) := by decide +kernel
theorem dX2_balance_28 : decode cX2_balance 28 = .ok (.getfield 29, 3) := by decide +kernel
theorem dX2_balance_31 : decode cX2_balance 31 = .ok (.iconst 5, 1) := by decide +kernel
theorem dX2_balance_32 : decode cX2_balance 32 = .ok (.laload, 1) := by decide +kernel
theorem dX2_balance_33 : decode cX2_balance 33 = .ok (.lsub, 1) := by decide +kernel
theorem dX2_balance_34 : decode cX2_balance 34 = .ok (.aload_n 0, 1) := by decide +kernel
theorem dX2_balance_35 : decode cX2_balance 35 = .ok (.getfield 29, 3) := by decide +kernel
theorem dX2_balance_38 : decode cX2_balance 38 = .ok (.bipush 6, 2) := by decide +kernel
theorem dX2_balance_40 : decode cX2_balance 40 = .ok (.laload, 1) := by decide +kernel
theorem dX2_balance_41 : decode cX2_balance 41 = .ok (.lsub, 1) := by decide +kernel
theorem dX2_balance_42 : decode cX2_balance 42 = .ok (.aload_n 0, 1) := by decide +kernel
theorem dX2_balance_43 : decode cX2_balance 43 = .ok (.getfield 29, 3) := by decide +kernel
theorem dX2_balance_46 : decode cX2_balance 46 = .ok (.bipush 7, 2) := by decide +kernel
theorem dX2_balance_48 : decode cX2_balance 48 = .ok (.laload, 1) := by decide +kernel
theorem dX2_balance_49 : decode cX2_balance 49 = .ok (.lsub, 1) := by decide +kernel
theorem dX2_balance_50 : decode cX2_balance 50 = .ok (.aload_n 0, 1) := by decide +kernel
theorem dX2_balance_51 : decode cX2_balance 51 = .ok (.getfield 29, 3) := by decide +kernel
theorem dX2_balance_54 : decode cX2_balance 54 = .ok (.bipush 8, 2) := by decide +kernel
theorem dX2_balance_56 : decode cX2_balance 56 = .ok (.laload, 1) := by decide +kernel
theorem dX2_balance_57 : decode cX2_balance 57 = .ok (.lsub, 1) := by decide +kernel
theorem dX2_balance_58 : decode cX2_balance 58 = .ok (.lstore_n 1, 1) := by decide +kernel
theorem dX2_balance_59 : decode cX2_balance 59 = .ok (.iconst 0, 1) := by decide +kernel
theorem dX2_balance_60 : decode cX2_balance 60 = .ok (.istore_n 3, 1) := by decide +kernel
theorem dX2_balance_61 : decode cX2_balance 61 = .ok (.iload_n 3, 1) := by decide +kernel
theorem dX2_balance_62 : decode cX2_balance 62 = .ok (.aload_n 0, 1) := by decide +kernel
theorem dX2_balance_63 : decode cX2_balance 63 = .ok (.getfield 59, 3) := by decide +kernel
theorem dX2_balance_66 : decode cX2_balance 66 = .ok (.if_icmp .ge 18, 3) := by decide +kernel
theorem dX2_balance_69 : decode cX2_balance 69 = .ok (.lload_n 1, 1) := by decide +kernel
theorem dX2_balance_70 : decode cX2_balance 70 = .ok (.aload_n 0, 1) := by decide +kernel
theorem dX2_balance_71 : decode cX2_balance 71 = .ok (.getfield 7, 3) := by decide +kernel
theorem dX2_balance_74 : decode cX2_balance 74 = .ok (.iload_n 3, 1) := by decide +kernel
theorem dX2_balance_75 : decode cX2_balance 75 = .ok (.laload, 1) := by decide +kernel
theorem dX2_balance_76 : decode cX2_balance 76 = .ok (.lsub, 1) := by decide +kernel
theorem dX2_balance_77 : decode cX2_balance 77 = .ok (.lstore_n 1, 1) := by decide +kernel
theorem dX2_balance_78 : decode cX2_balance 78 = .ok (.iinc 3 1, 3) := by decide +kernel
theorem dX2_balance_81 : decode cX2_balance 81 = .ok (.goto (-20), 3) := by decide +kernel
theorem dX2_balance_84 : decode cX2_balance 84 = .ok (.lload_n 1, 1) := by decide +kernel
theorem dX2_balance_85 : decode cX2_balance 85 = .ok (.lreturn, 1) := by decide +kernel
theorem dX2_limit_0 : decode cX2_limit 0 = .ok (.lload_n 1, 1) := by decide +kernel
theorem dX2_limit_1 : decode cX2_limit 1 = .ok (.ldc2_w 35, 3) := by decide +kernel
theorem dX2_limit_4 : decode cX2_limit 4 = .ok (.ldc2_w 82, 3) := by decide +kernel
theorem dX2_limit_7 : decode cX2_limit 7 = .ok (.invokestatic 63, 3) := by decide +kernel
theorem dX2_limit_10 : decode cX2_limit 10 = .ok (.ifCond .eq 16, 3) := by decide +kernel
theorem dX2_limit_13 : decode cX2_limit 13 = .ok (.lload_n 3, 1) := by decide +kernel
theorem dX2_limit_14 : decode cX2_limit 14 = .ok (.ldc2_w 35, 3) := by decide +kernel
theorem dX2_limit_17 : decode cX2_limit 17 = .ok (.ldc2_w 82, 3) := by decide +kernel
theorem dX2_limit_20 : decode cX2_limit 20 = .ok (.invokestatic 63, 3) := by decide +kernel
theorem dX2_limit_23 : decode cX2_limit 23 = .ok (.ifCond .ne 5, 3) := by decide +kernel
theorem dX2_limit_26 : decode cX2_limit 26 = .ok (.iconst 0, 1) := by decide +kernel
theorem dX2_limit_27 : decode cX2_limit 27 = .ok (.ireturn, 1) := by decide +kernel
theorem dX2_limit_28 : decode cX2_limit 28 = .ok (.aload_n 0, 1) := by decide +kernel
theorem dX2_limit_29 : decode cX2_limit 29 = .ok (.lload_n 1, 1) := by decide +kernel
theorem dX2_limit_30 : decode cX2_limit 30 = .ok (.putfield 37, 3) := by decide +kernel
theorem dX2_limit_33 : decode cX2_limit 33 = .ok (.aload_n 0, 1) := by decide +kernel
theorem dX2_limit_34 : decode cX2_limit 34 = .ok (.lload_n 3, 1) := by decide +kernel
theorem dX2_limit_35 : decode cX2_limit 35 = .ok (.putfield 41, 3) := by decide +kernel
theorem dX2_limit_38 : decode cX2_limit 38 = .ok (.iconst 1, 1) := by decide +kernel
theorem dX2_limit_39 : decode cX2_limit 39 = .ok (.ireturn, 1) := by decide +kernel
theorem dX2_passed_0 : decode cX2_passed 0 = .ok (.iload_n 1, 1) := by decide +kernel
theorem dX2_passed_1 : decode cX2_passed 1 = .ok (.i2l, 1) := by decide +kernel
theorem dX2_passed_2 : decode cX2_passed 2 = .ok (.lconst 0, 1) := by decide +kernel
theorem dX2_passed_3 : decode cX2_passed 3 = .ok (.lconst 1, 1) := by decide +kernel
theorem dX2_passed_4 : decode cX2_passed 4 = .ok (.invokestatic 63, 3) := by decide +kernel
theorem dX2_passed_7 : decode cX2_passed 7 = .ok (.ifCond .ne 5, 3) := by decide +kernel
theorem dX2_passed_10 : decode cX2_passed 10 = .ok (.iconst (-1), 1) := by decide +kernel
theorem dX2_passed_11 : decode cX2_passed 11 = .ok (.ireturn, 1) := by decide +kernel
theorem dX2_passed_12 : decode cX2_passed 12 = .ok (.iload_n 1, 1) := by decide +kernel
theorem dX2_passed_13 : decode cX2_passed 13 = .ok (.ifCond .ne 10, 3) := by decide +kernel
theorem dX2_passed_16 : decode cX2_passed 16 = .ok (.aload_n 0, 1) := by decide +kernel
theorem dX2_passed_17 : decode cX2_passed 17 = .ok (.getfield 37, 3) := by decide +kernel
theorem dX2_passed_20 : decode cX2_passed 20 = .ok (.goto 7, 3) := by decide +kernel
theorem dX2_passed_23 : decode cX2_passed 23 = .ok (.aload_n 0, 1) := by decide +kernel
theorem dX2_passed_24 : decode cX2_passed 24 = .ok (.getfield 41, 3) := by decide +kernel
theorem dX2_passed_27 : decode cX2_passed 27 = .ok (.lstore_n 3, 1) := by decide +kernel
theorem dX2_passed_28 : decode cX2_passed 28 = .ok (.lconst 0, 1) := by decide +kernel
theorem dX2_passed_29 : decode cX2_passed 29 = .ok (.lstore 5, 2) := by decide +kernel
theorem dX2_passed_31 : decode cX2_passed 31 = .ok (.iconst 0, 1) := by decide +kernel
theorem dX2_passed_32 : decode cX2_passed 32 = .ok (.istore 7, 2) := by decide +kernel
theorem dX2_passed_34 : decode cX2_passed 34 = .ok (.iconst 0, 1) := by decide +kernel
theorem dX2_passed_35 : decode cX2_passed 35 = .ok (.istore 8, 2) := by decide +kernel
theorem dX2_passed_37 : decode cX2_passed 37 = .ok (.iload 8, 2) := by decide +kernel
theorem dX2_passed_39 : decode cX2_passed 39 = .ok (.aload_n 0, 1) := by decide +kernel
theorem dX2_passed_40 : decode cX2_passed 40 = .ok (.getfield 90, 3) := by decide +kernel
theorem dX2_passed_43 : decode cX2_passed 43 = .ok (.if_icmp .ge 100, 3) := by decide +kernel
theorem dX2_passed_46 : decode cX2_passed 46 = .ok (.lload_n 3, 1) := by decide +kernel
theorem dX2_passed_47 : decode cX2_passed 47 = .ok (.lconst 0, 1) := by decide +kernel
theorem dX2_passed_48 : decode cX2_passed 48 = .ok (.lcmp, 1) := by decide +kernel
theorem dX2_passed_49 : decode cX2_passed 49 = .ok (.ifCond .lt 94, 3) := by decide +kernel
theorem dX2_passed_52 : decode cX2_passed 52 = .ok (.lload 5, 2) := by decide +kernel
theorem dX2_passed_54 : decode cX2_passed 54 = .ok (.aload_n 0, 1) := by decide +kernel
theorem dX2_passed_55 : decode cX2_passed 55 = .ok (.getfield 32, 3) := by decide +kernel
theorem dX2_passed_58 : decode cX2_passed 58 = .ok (.iload 8, 2) := by decide +kernel
theorem dX2_passed_60 : decode cX2_passed 60 = .ok (.laload, 1) := by decide +kernel
theorem dX2_passed_61 : decode cX2_passed 61 = .ok (.ladd, 1) := by decide +kernel
theorem dX2_passed_62 : decode cX2_passed 62 = .ok (.lstore 5, 2) := by decide +kernel
theorem dX2_passed_64 : decode cX2_passed 64 = .ok (.iload_n 1, 1) := by decide +kernel
theorem dX2_passed_65 : decode cX2_passed 65 = .ok (.ifCond .ne 23, 3) := by decide +kernel
theorem dX2_passed_68 : decode cX2_passed 68 = .ok (.aload_n 0, 1) := by decide +kernel
theorem dX2_passed_69 : decode cX2_passed 69 = .ok (.getfield 32, 3) := by decide +kernel
theorem dX2_passed_72 : decode cX2_passed 72 = .ok (.iload 8, 2) := by decide +kernel
theorem dX2_passed_74 : decode cX2_passed 74 = .ok (.laload, 1) := by decide +kernel
theorem dX2_passed_75 : decode cX2_passed 75 = .ok (.lload_n 3, 1) := by decide +kernel
theorem dX2_passed_76 : decode cX2_passed 76 = .ok (.lcmp, 1) := by decide +kernel
theorem dX2_passed_77 : decode cX2_passed 77 = .ok (.ifCond .le 7, 3) := by decide +kernel
theorem dX2_passed_80 : decode cX2_passed 80 = .ok (.iconst 1, 1) := by decide +kernel
theorem dX2_passed_81 : decode cX2_passed 81 = .ok (.goto 25, 3) := by decide +kernel
theorem dX2_passed_84 : decode cX2_passed 84 = .ok (.iconst 0, 1) := by decide +kernel
theorem dX2_passed_85 : decode cX2_passed 85 = .ok (.goto 21, 3) := by decide +kernel
theorem dX2_passed_88 : decode cX2_passed 88 = .ok (.lload 5, 2) := by decide +kernel
theorem dX2_passed_90 : decode cX2_passed 90 = .ok (.lload_n 3, 1) := by decide +kernel
theorem dX2_passed_91 : decode cX2_passed 91 = .ok (.iload 8, 2) := by decide +kernel
theorem dX2_passed_93 : decode cX2_passed 93 = .ok (.iconst 1, 1) := by decide +kernel
theorem dX2_passed_94 : decode cX2_passed 94 = .ok (.iadd, 1) := by decide +kernel
theorem dX2_passed_95 : decode cX2_passed 95 = .ok (.i2l, 1) := by decide +kernel
theorem dX2_passed_96 : decode cX2_passed 96 = .ok (.lmul, 1) := by decide +kernel
theorem dX2_passed_97 : decode cX2_passed 97 = .ok (.lcmp, 1) := by decide +kernel
theorem dX2_passed_98 : decode cX2_passed 98 = .ok (.ifCond .le 7, 3) := by decide +kernel
theorem dX2_passed_101 : decode cX2_passed 101 = .ok (.iconst 1, 1) := by decide +kernel
theorem dX2_passed_102 : decode cX2_passed 102 = .ok (.goto 4, 3) := by decide +kernel
theorem dX2_passed_105 : decode cX2_passed 105 = .ok (.iconst 0, 1) := by decide +kernel
theorem dX2_passed_106 : decode cX2_passed 106 = .ok (.istore 9, 2) := by decide +kernel
theorem dX2_passed_108 : decode cX2_passed 108 = .ok (.iload 9, 2) := by decide +kernel
theorem dX2_passed_110 : decode cX2_passed 110 = .ok (.ifCond .eq 12, 3) := by decide +kernel
theorem dX2_passed_113 : decode cX2_passed 113 = .ok (.iload 7, 2) := by decide +kernel
theorem dX2_passed_115 : decode cX2_passed 115 = .ok (.iload_n 2, 1) := by decide +kernel
theorem dX2_passed_116 : decode cX2_passed 116 = .ok (.if_icmp .ne 6, 3) := by decide +kernel
theorem dX2_passed_119 : decode cX2_passed 119 = .ok (.iload 8, 2) := by decide +kernel
theorem dX2_passed_121 : decode cX2_passed 121 = .ok (.ireturn, 1) := by decide +kernel
theorem dX2_passed_122 : decode cX2_passed 122 = .ok (.iload 7, 2) := by decide +kernel
theorem dX2_passed_124 : decode cX2_passed 124 = .ok (.iload 9, 2) := by decide +kernel
theorem dX2_passed_126 : decode cX2_passed 126 = .ok (.ifCond .eq 7, 3) := by decide +kernel
theorem dX2_passed_129 : decode cX2_passed 129 = .ok (.iconst 1, 1) := by decide +kernel
theorem dX2_passed_130 : decode cX2_passed 130 = .ok (.goto 4, 3) := by decide +kernel
theorem dX2_passed_133 : decode cX2_passed 133 = .ok (.iconst 0, 1) := by decide +kernel
theorem dX2_passed_134 : decode cX2_passed 134 = .ok (.iadd, 1) := by decide +kernel
theorem dX2_passed_135 : decode cX2_passed 135 = .ok (.istore 7, 2) := by decide +kernel
theorem dX2_passed_137 : decode cX2_passed 137 = .ok (.iinc 8 1, 3) := by decide +kernel
theorem dX2_passed_140 : decode cX2_passed 140 = .ok (.goto (-103), 3) := by decide +kernel
theorem dX2_passed_143 : decode cX2_passed 143 = .ok (.iconst (-1), 1) := by decide +kernel
theorem dX2_passed_144 : decode cX2_passed 144 = .ok (.ireturn, 1) := by decide +kernel
theorem dX2_sample_0 : decode cX2_sample 0 = .ok (.iload_n 1, 1) := by decide +kernel
theorem dX2_sample_1 : decode cX2_sample 1 = .ok (.invokestatic 115, 3) := by decide +kernel
theorem dX2_sample_4 : decode cX2_sample 4 = .ok (.ifCond .eq 40, 3) := by decide +kernel
theorem dX2_sample_7 : decode cX2_sample 7 = .ok (.aload_n 0, 1) := by decide +kernel
theorem dX2_sample_8 : decode cX2_sample 8 = .ok (.getfield 44, 3) := by decide +kernel
theorem dX2_sample_11 : decode cX2_sample 11 = .ok (.iload_n 1, 1) := by decide +kernel
theorem dX2_sample_12 : decode cX2_sample 12 = .ok (.iaload, 1) := by decide +kernel
theorem dX2_sample_13 : decode cX2_sample 13 = .ok (.bipush 8, 2) := by decide +kernel
theorem dX2_sample_15 : decode cX2_sample 15 = .ok (.if_icmp .eq 29, 3) := by decide +kernel
theorem dX2_sample_18 : decode cX2_sample 18 = .ok (.iload_n 2, 1) := by decide +kernel
theorem dX2_sample_19 : decode cX2_sample 19 = .ok (.i2l, 1) := by decide +kernel
theorem dX2_sample_20 : decode cX2_sample 20 = .ok (.lconst 0, 1) := by decide +kernel
theorem dX2_sample_21 : decode cX2_sample 21 = .ok (.ldc2_w 118, 3) := by decide +kernel
theorem dX2_sample_24 : decode cX2_sample 24 = .ok (.invokestatic 63, 3) := by decide +kernel
theorem dX2_sample_27 : decode cX2_sample 27 = .ok (.ifCond .eq 17, 3) := by decide +kernel
theorem dX2_sample_30 : decode cX2_sample 30 = .ok (.iload_n 3, 1) := by decide +kernel
theorem dX2_sample_31 : decode cX2_sample 31 = .ok (.i2l, 1) := by decide +kernel
theorem dX2_sample_32 : decode cX2_sample 32 = .ok (.ldc2_w 120, 3) := by decide +kernel
theorem dX2_sample_35 : decode cX2_sample 35 = .ok (.ldc2_w 67, 3) := by decide +kernel
theorem dX2_sample_38 : decode cX2_sample 38 = .ok (.invokestatic 63, 3) := by decide +kernel
theorem dX2_sample_41 : decode cX2_sample 41 = .ok (.ifCond .ne 5, 3) := by decide +kernel
theorem dX2_sample_44 : decode cX2_sample 44 = .ok (.iconst (-1), 1) := by decide +kernel
theorem dX2_sample_45 : decode cX2_sample 45 = .ok (.ireturn, 1) := by decide +kernel
theorem dX2_sample_46 : decode cX2_sample 46 = .ok (.bipush 8, 2) := by decide +kernel
theorem dX2_sample_48 : decode cX2_sample 48 = .ok (.iload_n 1, 1) := by decide +kernel
theorem dX2_sample_49 : decode cX2_sample 49 = .ok (.imul, 1) := by decide +kernel
theorem dX2_sample_50 : decode cX2_sample 50 = .ok (.aload_n 0, 1) := by decide +kernel
theorem dX2_sample_51 : decode cX2_sample 51 = .ok (.getfield 44, 3) := by decide +kernel
theorem dX2_sample_54 : decode cX2_sample 54 = .ok (.iload_n 1, 1) := by decide +kernel
theorem dX2_sample_55 : decode cX2_sample 55 = .ok (.iaload, 1) := by decide +kernel
theorem dX2_sample_56 : decode cX2_sample 56 = .ok (.iadd, 1) := by decide +kernel
theorem dX2_sample_57 : decode cX2_sample 57 = .ok (.istore 4, 2) := by decide +kernel
theorem dX2_sample_59 : decode cX2_sample 59 = .ok (.aload_n 0, 1) := by decide +kernel
theorem dX2_sample_60 : decode cX2_sample 60 = .ok (.getfield 44, 3) := by decide +kernel
theorem dX2_sample_63 : decode cX2_sample 63 = .ok (.iload_n 1, 1) := by decide +kernel
theorem dX2_sample_64 : decode cX2_sample 64 = .ok (.iaload, 1) := by decide +kernel
theorem dX2_sample_65 : decode cX2_sample 65 = .ok (.ifCond .le 18, 3) := by decide +kernel
theorem dX2_sample_68 : decode cX2_sample 68 = .ok (.iload_n 2, 1) := by decide +kernel
theorem dX2_sample_69 : decode cX2_sample 69 = .ok (.aload_n 0, 1) := by decide +kernel
theorem dX2_sample_70 : decode cX2_sample 70 = .ok (.getfield 47, 3) := by decide +kernel
theorem dX2_sample_73 : decode cX2_sample 73 = .ok (.iload 4, 2) := by decide +kernel
theorem dX2_sample_75 : decode cX2_sample 75 = .ok (.iconst 1, 1) := by decide +kernel
theorem dX2_sample_76 : decode cX2_sample 76 = .ok (.isub, 1) := by decide +kernel
theorem dX2_sample_77 : decode cX2_sample 77 = .ok (.iaload, 1) := by decide +kernel
theorem dX2_sample_78 : decode cX2_sample 78 = .ok (.if_icmp .gt 5, 3) := by decide +kernel
theorem dX2_sample_81 : decode cX2_sample 81 = .ok (.iconst (-1), 1) := by decide +kernel
theorem dX2_sample_82 : decode cX2_sample 82 = .ok (.ireturn, 1) := by decide +kernel
theorem dX2_sample_83 : decode cX2_sample 83 = .ok (.bipush 8, 2) := by decide +kernel
theorem dX2_sample_85 : decode cX2_sample 85 = .ok (.iload_n 1, 1) := by decide +kernel
theorem dX2_sample_86 : decode cX2_sample 86 = .ok (.imul, 1) := by decide +kernel
theorem dX2_sample_87 : decode cX2_sample 87 = .ok (.istore 5, 2) := by decide +kernel
theorem dX2_sample_89 : decode cX2_sample 89 = .ok (.iload 5, 2) := by decide +kernel
theorem dX2_sample_91 : decode cX2_sample 91 = .ok (.iload 4, 2) := by decide +kernel
theorem dX2_sample_93 : decode cX2_sample 93 = .ok (.if_icmp .ge 22, 3) := by decide +kernel
theorem dX2_sample_96 : decode cX2_sample 96 = .ok (.aload_n 0, 1) := by decide +kernel
theorem dX2_sample_97 : decode cX2_sample 97 = .ok (.getfield 50, 3) := by decide +kernel
theorem dX2_sample_100 : decode cX2_sample 100 = .ok (.iload 5, 2) := by decide +kernel
theorem dX2_sample_102 : decode cX2_sample 102 = .ok (.iaload, 1) := by decide +kernel
theorem dX2_sample_103 : decode cX2_sample 103 = .ok (.iload_n 3, 1) := by decide +kernel
theorem dX2_sample_104 : decode cX2_sample 104 = .ok (.if_icmp .ne 5, 3) := by decide +kernel
theorem dX2_sample_107 : decode cX2_sample 107 = .ok (.iconst (-1), 1) := by decide +kernel
theorem dX2_sample_108 : decode cX2_sample 108 = .ok (.ireturn, 1) := by decide +kernel
theorem dX2_sample_109 : decode cX2_sample 109 = .ok (.iinc 5 1, 3) := by decide +kernel
theorem dX2_sample_112 : decode cX2_sample 112 = .ok (.goto (-23), 3) := by decide +kernel
theorem dX2_sample_115 : decode cX2_sample 115 = .ok (.aload_n 0, 1) := by decide +kernel
theorem dX2_sample_116 : decode cX2_sample 116 = .ok (.getfield 47, 3) := by decide +kernel
theorem dX2_sample_119 : decode cX2_sample 119 = .ok (.iload 4, 2) := by decide +kernel
theorem dX2_sample_121 : decode cX2_sample 121 = .ok (.iload_n 2, 1) := by decide +kernel
theorem dX2_sample_122 : decode cX2_sample 122 = .ok (.iastore, 1) := by decide +kernel
theorem dX2_sample_123 : decode cX2_sample 123 = .ok (.aload_n 0, 1) := by decide +kernel
theorem dX2_sample_124 : decode cX2_sample 124 = .ok (.getfield 50, 3) := by decide +kernel
theorem dX2_sample_127 : decode cX2_sample 127 = .ok (.iload 4, 2) := by decide +kernel
theorem dX2_sample_129 : decode cX2_sample 129 = .ok (.iload_n 3, 1) := by decide +kernel
theorem dX2_sample_130 : decode cX2_sample 130 = .ok (.iastore, 1) := by decide +kernel
theorem dX2_sample_131 : decode cX2_sample 131 = .ok (.aload_n 0, 1) := by decide +kernel
theorem dX2_sample_132 : decode cX2_sample 132 = .ok (.getfield 44, 3) := by decide +kernel
theorem dX2_sample_135 : decode cX2_sample 135 = .ok (.iload_n 1, 1) := by decide +kernel
theorem dX2_sample_136 : decode cX2_sample 136 = .ok (.dup2, 1) := by decide +kernel
theorem dX2_sample_137 : decode cX2_sample 137 = .ok (.iaload, 1) := by decide +kernel
theorem dX2_sample_138 : decode cX2_sample 138 = .ok (.iconst 1, 1) := by decide +kernel
theorem dX2_sample_139 : decode cX2_sample 139 = .ok (.iadd, 1) := by decide +kernel
theorem dX2_sample_140 : decode cX2_sample 140 = .ok (.iastore, 1) := by decide +kernel
theorem dX2_sample_141 : decode cX2_sample 141 = .ok (.aload_n 0, 1) := by decide +kernel
theorem dX2_sample_142 : decode cX2_sample 142 = .ok (.getfield 44, 3) := by decide +kernel
theorem dX2_sample_145 : decode cX2_sample 145 = .ok (.iload_n 1, 1) := by decide +kernel
theorem dX2_sample_146 : decode cX2_sample 146 = .ok (.iaload, 1) := by decide +kernel
theorem dX2_sample_147 : decode cX2_sample 147 = .ok (.ireturn, 1) := by decide +kernel
theorem dX2_isWell_0 : decode cX2_isWell 0 = .ok (.iload_n 0, 1) := by decide +kernel
theorem dX2_isWell_1 : decode cX2_isWell 1 = .ok (.ifCond .lt 12, 3) := by decide +kernel
theorem dX2_isWell_4 : decode cX2_isWell 4 = .ok (.iload_n 0, 1) := by decide +kernel
theorem dX2_isWell_5 : decode cX2_isWell 5 = .ok (.iconst 4, 1) := by decide +kernel
theorem dX2_isWell_6 : decode cX2_isWell 6 = .ok (.if_icmp .ge 7, 3) := by decide +kernel
theorem dX2_isWell_9 : decode cX2_isWell 9 = .ok (.iconst 1, 1) := by decide +kernel
theorem dX2_isWell_10 : decode cX2_isWell 10 = .ok (.goto 4, 3) := by decide +kernel
theorem dX2_isWell_13 : decode cX2_isWell 13 = .ok (.iconst 0, 1) := by decide +kernel
theorem dX2_isWell_14 : decode cX2_isWell 14 = .ok (.ireturn, 1) := by decide +kernel
theorem dX2_trend_0 : decode cX2_trend 0 = .ok (.iconst 0, 1) := by decide +kernel
theorem dX2_trend_1 : decode cX2_trend 1 = .ok (.istore_n 2, 1) := by decide +kernel
theorem dX2_trend_2 : decode cX2_trend 2 = .ok (.iconst 0, 1) := by decide +kernel
theorem dX2_trend_3 : decode cX2_trend 3 = .ok (.istore_n 3, 1) := by decide +kernel
theorem dX2_trend_4 : decode cX2_trend 4 = .ok (.iload_n 1, 1) := by decide +kernel
theorem dX2_trend_5 : decode cX2_trend 5 = .ok (.invokestatic 115, 3) := by decide +kernel
theorem dX2_trend_8 : decode cX2_trend 8 = .ok (.ifCond .eq 75, 3) := by decide +kernel
theorem dX2_trend_11 : decode cX2_trend 11 = .ok (.iload_n 3, 1) := by decide +kernel
theorem dX2_trend_12 : decode cX2_trend 12 = .ok (.aload_n 0, 1) := by decide +kernel
theorem dX2_trend_13 : decode cX2_trend 13 = .ok (.getfield 44, 3) := by decide +kernel
theorem dX2_trend_16 : decode cX2_trend 16 = .ok (.iload_n 1, 1) := by decide +kernel
theorem dX2_trend_17 : decode cX2_trend 17 = .ok (.iaload, 1) := by decide +kernel
theorem dX2_trend_18 : decode cX2_trend 18 = .ok (.if_icmp .ge 65, 3) := by decide +kernel
theorem dX2_trend_21 : decode cX2_trend 21 = .ok (.iload_n 3, 1) := by decide +kernel
theorem dX2_trend_22 : decode cX2_trend 22 = .ok (.iconst 1, 1) := by decide +kernel
theorem dX2_trend_23 : decode cX2_trend 23 = .ok (.iadd, 1) := by decide +kernel
theorem dX2_trend_24 : decode cX2_trend 24 = .ok (.istore 4, 2) := by decide +kernel
theorem dX2_trend_26 : decode cX2_trend 26 = .ok (.iload 4, 2) := by decide +kernel
theorem dX2_trend_28 : decode cX2_trend 28 = .ok (.aload_n 0, 1) := by decide +kernel
theorem dX2_trend_29 : decode cX2_trend 29 = .ok (.getfield 44, 3) := by decide +kernel
theorem dX2_trend_32 : decode cX2_trend 32 = .ok (.iload_n 1, 1) := by decide +kernel
theorem dX2_trend_33 : decode cX2_trend 33 = .ok (.iaload, 1) := by decide +kernel
theorem dX2_trend_34 : decode cX2_trend 34 = .ok (.if_icmp .ge 43, 3) := by decide +kernel
theorem dX2_trend_37 : decode cX2_trend 37 = .ok (.iload_n 2, 1) := by decide +kernel
theorem dX2_trend_38 : decode cX2_trend 38 = .ok (.aload_n 0, 1) := by decide +kernel
theorem dX2_trend_39 : decode cX2_trend 39 = .ok (.getfield 50, 3) := by decide +kernel
theorem dX2_trend_42 : decode cX2_trend 42 = .ok (.bipush 8, 2) := by decide +kernel
theorem dX2_trend_44 : decode cX2_trend 44 = .ok (.iload_n 1, 1) := by decide +kernel
theorem dX2_trend_45 : decode cX2_trend 45 = .ok (.imul, 1) := by decide +kernel
theorem dX2_trend_46 : decode cX2_trend 46 = .ok (.iload 4, 2) := by decide +kernel
theorem dX2_trend_48 : decode cX2_trend 48 = .ok (.iadd, 1) := by decide +kernel
theorem dX2_trend_49 : decode cX2_trend 49 = .ok (.iaload, 1) := by decide +kernel
theorem dX2_trend_50 : decode cX2_trend 50 = .ok (.aload_n 0, 1) := by decide +kernel
theorem dX2_trend_51 : decode cX2_trend 51 = .ok (.getfield 50, 3) := by decide +kernel
theorem dX2_trend_54 : decode cX2_trend 54 = .ok (.bipush 8, 2) := by decide +kernel
theorem dX2_trend_56 : decode cX2_trend 56 = .ok (.iload_n 1, 1) := by decide +kernel
theorem dX2_trend_57 : decode cX2_trend 57 = .ok (.imul, 1) := by decide +kernel
theorem dX2_trend_58 : decode cX2_trend 58 = .ok (.iload_n 3, 1) := by decide +kernel
theorem dX2_trend_59 : decode cX2_trend 59 = .ok (.iadd, 1) := by decide +kernel
theorem dX2_trend_60 : decode cX2_trend 60 = .ok (.iaload, 1) := by decide +kernel
theorem dX2_trend_61 : decode cX2_trend 61 = .ok (.if_icmp .le 7, 3) := by decide +kernel
theorem dX2_trend_64 : decode cX2_trend 64 = .ok (.iconst 1, 1) := by decide +kernel
theorem dX2_trend_65 : decode cX2_trend 65 = .ok (.goto 4, 3) := by decide +kernel
theorem dX2_trend_68 : decode cX2_trend 68 = .ok (.iconst (-1), 1) := by decide +kernel
theorem dX2_trend_69 : decode cX2_trend 69 = .ok (.iadd, 1) := by decide +kernel
theorem dX2_trend_70 : decode cX2_trend 70 = .ok (.istore_n 2, 1) := by decide +kernel
theorem dX2_trend_71 : decode cX2_trend 71 = .ok (.iinc 4 1, 3) := by decide +kernel
theorem dX2_trend_74 : decode cX2_trend 74 = .ok (.goto (-48), 3) := by decide +kernel
theorem dX2_trend_77 : decode cX2_trend 77 = .ok (.iinc 3 1, 3) := by decide +kernel
theorem dX2_trend_80 : decode cX2_trend 80 = .ok (.goto (-76), 3) := by decide +kernel
theorem dX2_trend_83 : decode cX2_trend 83 = .ok (.iload_n 2, 1) := by decide +kernel
theorem dX2_trend_84 : decode cX2_trend 84 = .ok (.ireturn, 1) := by decide +kernel
theorem dX2_odds_0 : decode cX2_odds 0 = .ok (.iload_n 1, 1) := by decide +kernel
theorem dX2_odds_1 : decode cX2_odds 1 = .ok (.invokestatic 115, 3) := by decide +kernel
theorem dX2_odds_4 : decode cX2_odds 4 = .ok (.ifCond .eq 13, 3) := by decide +kernel
theorem dX2_odds_7 : decode cX2_odds 7 = .ok (.iload_n 2, 1) := by decide +kernel
theorem dX2_odds_8 : decode cX2_odds 8 = .ok (.i2l, 1) := by decide +kernel
theorem dX2_odds_9 : decode cX2_odds 9 = .ok (.lconst 0, 1) := by decide +kernel
theorem dX2_odds_10 : decode cX2_odds 10 = .ok (.lconst 1, 1) := by decide +kernel
theorem dX2_odds_11 : decode cX2_odds 11 = .ok (.invokestatic 63, 3) := by decide +kernel
theorem dX2_odds_14 : decode cX2_odds 14 = .ok (.ifCond .ne 5, 3) := by decide +kernel
theorem dX2_odds_17 : decode cX2_odds 17 = .ok (.iconst (-1), 1) := by decide +kernel
theorem dX2_odds_18 : decode cX2_odds 18 = .ok (.ireturn, 1) := by decide +kernel
theorem dX2_odds_19 : decode cX2_odds 19 = .ok (.aload_n 0, 1) := by decide +kernel
theorem dX2_odds_20 : decode cX2_odds 20 = .ok (.getfield 44, 3) := by decide +kernel
theorem dX2_odds_23 : decode cX2_odds 23 = .ok (.iload_n 1, 1) := by decide +kernel
theorem dX2_odds_24 : decode cX2_odds 24 = .ok (.iaload, 1) := by decide +kernel
theorem dX2_odds_25 : decode cX2_odds 25 = .ok (.istore_n 3, 1) := by decide +kernel
theorem dX2_odds_26 : decode cX2_odds 26 = .ok (.iload_n 3, 1) := by decide +kernel
theorem dX2_odds_27 : decode cX2_odds 27 = .ok (.iload_n 3, 1) := by decide +kernel
theorem dX2_odds_28 : decode cX2_odds 28 = .ok (.iconst 1, 1) := by decide +kernel
theorem dX2_odds_29 : decode cX2_odds 29 = .ok (.isub, 1) := by decide +kernel
theorem dX2_odds_30 : decode cX2_odds 30 = .ok (.imul, 1) := by decide +kernel
theorem dX2_odds_31 : decode cX2_odds 31 = .ok (.iconst 2, 1) := by decide +kernel
theorem dX2_odds_32 : decode cX2_odds 32 = .ok (.idiv, 1) := by decide +kernel
theorem dX2_odds_33 : decode cX2_odds 33 = .ok (.istore 4, 2) := by decide +kernel
theorem dX2_odds_35 : decode cX2_odds 35 = .ok (.aload_n 0, 1) := by decide +kernel
theorem dX2_odds_36 : decode cX2_odds 36 = .ok (.iload_n 1, 1) := by decide +kernel
theorem dX2_odds_37 : decode cX2_odds 37 = .ok (.invokevirtual 122, 3) := by decide +kernel
theorem dX2_odds_40 : decode cX2_odds 40 = .ok (.istore 5, 2) := by decide +kernel
theorem dX2_odds_42 : decode cX2_odds 42 = .ok (.iload 5, 2) := by decide +kernel
theorem dX2_odds_44 : decode cX2_odds 44 = .ok (.ifCond .ge 9, 3) := by decide +kernel
theorem dX2_odds_47 : decode cX2_odds 47 = .ok (.iload 5, 2) := by decide +kernel
theorem dX2_odds_49 : decode cX2_odds 49 = .ok (.ineg, 1) := by decide +kernel
theorem dX2_odds_50 : decode cX2_odds 50 = .ok (.goto 5, 3) := by decide +kernel
theorem dX2_odds_53 : decode cX2_odds 53 = .ok (.iload 5, 2) := by decide +kernel
theorem dX2_odds_55 : decode cX2_odds 55 = .ok (.istore 6, 2) := by decide +kernel
theorem dX2_odds_57 : decode cX2_odds 57 = .ok (.aload_n 0, 1) := by decide +kernel
theorem dX2_odds_58 : decode cX2_odds 58 = .ok (.iload_n 3, 1) := by decide +kernel
theorem dX2_odds_59 : decode cX2_odds 59 = .ok (.invokevirtual 126, 3) := by decide +kernel
theorem dX2_odds_62 : decode cX2_odds 62 = .ok (.lconst 0, 1) := by decide +kernel
theorem dX2_odds_63 : decode cX2_odds 63 = .ok (.lstore 7, 2) := by decide +kernel
theorem dX2_odds_65 : decode cX2_odds 65 = .ok (.lconst 0, 1) := by decide +kernel
theorem dX2_odds_66 : decode cX2_odds 66 = .ok (.lstore 9, 2) := by decide +kernel
theorem dX2_odds_68 : decode cX2_odds 68 = .ok (.iconst 0, 1) := by decide +kernel
theorem dX2_odds_69 : decode cX2_odds 69 = .ok (.istore 11, 2) := by decide +kernel
theorem dX2_odds_71 : decode cX2_odds 71 = .ok (.iload 11, 2) := by decide +kernel
theorem dX2_odds_73 : decode cX2_odds 73 = .ok (.iload 4, 2) := by decide +kernel
theorem dX2_odds_75 : decode cX2_odds 75 = .ok (.if_icmp .gt 61, 3) := by decide +kernel
theorem dX2_odds_78 : decode cX2_odds 78 = .ok (.iload 4, 2) := by decide +kernel
theorem dX2_odds_80 : decode cX2_odds 80 = .ok (.iconst 2, 1) := by decide +kernel
theorem dX2_odds_81 : decode cX2_odds 81 = .ok (.iload 11, 2) := by decide +kernel
theorem dX2_odds_83 : decode cX2_odds 83 = .ok (.imul, 1) := by decide +kernel
theorem dX2_odds_84 : decode cX2_odds 84 = .ok (.isub, 1) := by decide +kernel
theorem dX2_odds_85 : decode cX2_odds 85 = .ok (.istore 12, 2) := by decide +kernel
theorem dX2_odds_87 : decode cX2_odds 87 = .ok (.lload 9, 2) := by decide +kernel
theorem dX2_odds_89 : decode cX2_odds 89 = .ok (.aload_n 0, 1) := by decide +kernel
theorem dX2_odds_90 : decode cX2_odds 90 = .ok (.getfield 53, 3) := by decide +kernel
theorem dX2_odds_93 : decode cX2_odds 93 = .ok (.iload 11, 2) := by decide +kernel
theorem dX2_odds_95 : decode cX2_odds 95 = .ok (.laload, 1) := by decide +kernel
theorem dX2_odds_96 : decode cX2_odds 96 = .ok (.ladd, 1) := by decide +kernel
theorem dX2_odds_97 : decode cX2_odds 97 = .ok (.lstore 9, 2) := by decide +kernel
theorem dX2_odds_99 : decode cX2_odds 99 = .ok (.lload 7, 2) := by decide +kernel
theorem dX2_odds_101 : decode cX2_odds 101 = .ok (.iload 12, 2) := by decide +kernel
theorem dX2_odds_103 : decode cX2_odds 103 = .ok (.iload 6, 2) := by decide +kernel
theorem dX2_odds_105 : decode cX2_odds 105 = .ok (.if_icmp .ge 11, 3) := by decide +kernel
theorem dX2_odds_108 : decode cX2_odds 108 = .ok (.iload 12, 2) := by decide +kernel
theorem dX2_odds_110 : decode cX2_odds 110 = .ok (.ineg, 1) := by decide +kernel
theorem dX2_odds_111 : decode cX2_odds 111 = .ok (.iload 6, 2) := by decide +kernel
theorem dX2_odds_113 : decode cX2_odds 113 = .ok (.if_icmp .lt 13, 3) := by decide +kernel
theorem dX2_odds_116 : decode cX2_odds 116 = .ok (.aload_n 0, 1) := by decide +kernel
theorem dX2_odds_117 : decode cX2_odds 117 = .ok (.getfield 53, 3) := by decide +kernel
theorem dX2_odds_120 : decode cX2_odds 120 = .ok (.iload 11, 2) := by decide +kernel
theorem dX2_odds_122 : decode cX2_odds 122 = .ok (.laload, 1) := by decide +kernel
theorem dX2_odds_123 : decode cX2_odds 123 = .ok (.goto 4, 3) := by decide +kernel
theorem dX2_odds_126 : decode cX2_odds 126 = .ok (.lconst 0, 1) := by decide +kernel
theorem dX2_odds_127 : decode cX2_odds 127 = .ok (.ladd, 1) := by decide +kernel
theorem dX2_odds_128 : decode cX2_odds 128 = .ok (.lstore 7, 2) := by decide +kernel
theorem dX2_odds_130 : decode cX2_odds 130 = .ok (.iinc 11 1, 3) := by decide +kernel
theorem dX2_odds_133 : decode cX2_odds 133 = .ok (.goto (-62), 3) := by decide +kernel
theorem dX2_odds_136 : decode cX2_odds 136 = .ok (.lload 7, 2) := by decide +kernel
theorem dX2_odds_138 : decode cX2_odds 138 = .ok (.lstore 11, 2) := by decide +kernel
theorem dX2_odds_140 : decode cX2_odds 140 = .ok (.lload 9, 2) := by decide +kernel
theorem dX2_odds_142 : decode cX2_odds 142 = .ok (.lstore 13, 2) := by decide +kernel
theorem dX2_odds_144 : decode cX2_odds 144 = .ok (.lload 13, 2) := by decide +kernel
theorem dX2_odds_146 : decode cX2_odds 146 = .ok (.lconst 0, 1) := by decide +kernel
theorem dX2_odds_147 : decode cX2_odds 147 = .ok (.lcmp, 1) := by decide +kernel
theorem dX2_odds_148 : decode cX2_odds 148 = .ok (.ifCond .eq 21, 3) := by decide +kernel
theorem dX2_odds_151 : decode cX2_odds 151 = .ok (.lload 11, 2) := by decide +kernel
theorem dX2_odds_153 : decode cX2_odds 153 = .ok (.lload 13, 2) := by decide +kernel
theorem dX2_odds_155 : decode cX2_odds 155 = .ok (.lrem, 1) := by decide +kernel
theorem dX2_odds_156 : decode cX2_odds 156 = .ok (.lstore 15, 2) := by decide +kernel
theorem dX2_odds_158 : decode cX2_odds 158 = .ok (.lload 13, 2) := by decide +kernel
theorem dX2_odds_160 : decode cX2_odds 160 = .ok (.lstore 11, 2) := by decide +kernel
theorem dX2_odds_162 : decode cX2_odds 162 = .ok (.lload 15, 2) := by decide +kernel
theorem dX2_odds_164 : decode cX2_odds 164 = .ok (.lstore 13, 2) := by decide +kernel
theorem dX2_odds_166 : decode cX2_odds 166 = .ok (.goto (-22), 3) := by decide +kernel
theorem dX2_odds_169 : decode cX2_odds 169 = .ok (.iload_n 2, 1) := by decide +kernel
theorem dX2_odds_170 : decode cX2_odds 170 = .ok (.ifCond .ne 11, 3) := by decide +kernel
theorem dX2_odds_173 : decode cX2_odds 173 = .ok (.lload 7, 2) := by decide +kernel
theorem dX2_odds_175 : decode cX2_odds 175 = .ok (.lload 11, 2) := by decide +kernel
theorem dX2_odds_177 : decode cX2_odds 177 = .ok (.ldiv, 1) := by decide +kernel
theorem dX2_odds_178 : decode cX2_odds 178 = .ok (.goto 8, 3) := by decide +kernel
theorem dX2_odds_181 : decode cX2_odds 181 = .ok (.lload 9, 2) := by decide +kernel
theorem dX2_odds_183 : decode cX2_odds 183 = .ok (.lload 11, 2) := by decide +kernel
theorem dX2_odds_185 : decode cX2_odds 185 = .ok (.ldiv, 1) := by decide +kernel
theorem dX2_odds_186 : decode cX2_odds 186 = .ok (.l2i, 1) := by decide +kernel
theorem dX2_odds_187 : decode cX2_odds 187 = .ok (.ireturn, 1) := by decide +kernel
theorem dX2_countOrders_0 : decode cX2_countOrders 0 = .ok (.iconst 0, 1) := by decide +kernel
theorem dX2_countOrders_1 : decode cX2_countOrders 1 = .ok (.istore_n 2, 1) := by decide +kernel
theorem dX2_countOrders_2 : decode cX2_countOrders 2 = .ok (.iload_n 2, 1) := by decide +kernel
theorem dX2_countOrders_3 : decode cX2_countOrders 3 = .ok (.bipush 30, 2) := by decide +kernel
theorem dX2_countOrders_5 : decode cX2_countOrders 5 = .ok (.if_icmp .ge 24, 3) := by decide +kernel
theorem dX2_countOrders_8 : decode cX2_countOrders 8 = .ok (.aload_n 0, 1) := by decide +kernel
theorem dX2_countOrders_9 : decode cX2_countOrders 9 = .ok (.getfield 53, 3) := by decide +kernel
theorem dX2_countOrders_12 : decode cX2_countOrders 12 = .ok (.iload_n 2, 1) := by decide +kernel
theorem dX2_countOrders_13 : decode cX2_countOrders 13 = .ok (.iload_n 2, 1) := by decide +kernel
theorem dX2_countOrders_14 : decode cX2_countOrders 14 = .ok (.ifCond .ne 7, 3) := by decide +kernel
theorem dX2_countOrders_17 : decode cX2_countOrders 17 = .ok (.lconst 1, 1) := by decide +kernel
theorem dX2_countOrders_18 : decode cX2_countOrders 18 = .ok (.goto 4, 3) := by decide +kernel
theorem dX2_countOrders_21 : decode cX2_countOrders 21 = .ok (.lconst 0, 1) := by decide +kernel
theorem dX2_countOrders_22 : decode cX2_countOrders 22 = .ok (.lastore, 1) := by decide +kernel
theorem dX2_countOrders_23 : decode cX2_countOrders 23 = .ok (.iinc 2 1, 3) := by decide +kernel
theorem dX2_countOrders_26 : decode cX2_countOrders 26 = .ok (.goto (-24), 3) := by decide +kernel
theorem dX2_countOrders_29 : decode cX2_countOrders 29 = .ok (.iconst 2, 1) := by decide +kernel
theorem dX2_countOrders_30 : decode cX2_countOrders 30 = .ok (.istore_n 2, 1) := by decide +kernel
theorem dX2_countOrders_31 : decode cX2_countOrders 31 = .ok (.iload_n 2, 1) := by decide +kernel
theorem dX2_countOrders_32 : decode cX2_countOrders 32 = .ok (.iload_n 1, 1) := by decide +kernel
theorem dX2_countOrders_33 : decode cX2_countOrders 33 = .ok (.if_icmp .gt 95, 3) := by decide +kernel
theorem dX2_countOrders_36 : decode cX2_countOrders 36 = .ok (.iconst 0, 1) := by decide +kernel
theorem dX2_countOrders_37 : decode cX2_countOrders 37 = .ok (.istore_n 3, 1) := by decide +kernel
theorem dX2_countOrders_38 : decode cX2_countOrders 38 = .ok (.iload_n 3, 1) := by decide +kernel
theorem dX2_countOrders_39 : decode cX2_countOrders 39 = .ok (.bipush 30, 2) := by decide +kernel
theorem dX2_countOrders_41 : decode cX2_countOrders 41 = .ok (.if_icmp .ge 55, 3) := by decide +kernel
theorem dX2_countOrders_44 : decode cX2_countOrders 44 = .ok (.aload_n 0, 1) := by decide +kernel
theorem dX2_countOrders_45 : decode cX2_countOrders 45 = .ok (.getfield 56, 3) := by decide +kernel
theorem dX2_countOrders_48 : decode cX2_countOrders 48 = .ok (.iload_n 3, 1) := by decide +kernel
theorem dX2_countOrders_49 : decode cX2_countOrders 49 = .ok (.lconst 0, 1) := by decide +kernel
theorem dX2_countOrders_50 : decode cX2_countOrders 50 = .ok (.lastore, 1) := by decide +kernel
theorem dX2_countOrders_51 : decode cX2_countOrders 51 = .ok (.iconst 0, 1) := by decide +kernel
theorem dX2_countOrders_52 : decode cX2_countOrders 52 = .ok (.istore 4, 2) := by decide +kernel
theorem dX2_countOrders_54 : decode cX2_countOrders 54 = .ok (.iload 4, 2) := by decide +kernel
theorem dX2_countOrders_56 : decode cX2_countOrders 56 = .ok (.iload_n 2, 1) := by decide +kernel
theorem dX2_countOrders_57 : decode cX2_countOrders 57 = .ok (.if_icmp .ge 33, 3) := by decide +kernel
theorem dX2_countOrders_60 : decode cX2_countOrders 60 = .ok (.iload 4, 2) := by decide +kernel
theorem dX2_countOrders_62 : decode cX2_countOrders 62 = .ok (.iload_n 3, 1) := by decide +kernel
theorem dX2_countOrders_63 : decode cX2_countOrders 63 = .ok (.if_icmp .gt 27, 3) := by decide +kernel
theorem dX2_countOrders_66 : decode cX2_countOrders 66 = .ok (.aload_n 0, 1) := by decide +kernel
theorem dX2_countOrders_67 : decode cX2_countOrders 67 = .ok (.getfield 56, 3) := by decide +kernel
theorem dX2_countOrders_70 : decode cX2_countOrders 70 = .ok (.iload_n 3, 1) := by decide +kernel
theorem dX2_countOrders_71 : decode cX2_countOrders 71 = .ok (.dup2, 1) := by decide +kernel
theorem dX2_countOrders_72 : decode cX2_countOrders 72 = .ok (.laload, 1) := by decide +kernel
theorem dX2_countOrders_73 : decode cX2_countOrders 73 = .ok (.aload_n 0, 1) := by decide +kernel
theorem dX2_countOrders_74 : decode cX2_countOrders 74 = .ok (.getfield 53, 3) := by decide +kernel
theorem dX2_countOrders_77 : decode cX2_countOrders 77 = .ok (.iload_n 3, 1) := by decide +kernel
theorem dX2_countOrders_78 : decode cX2_countOrders 78 = .ok (.iload 4, 2) := by decide +kernel
theorem dX2_countOrders_80 : decode cX2_countOrders 80 = .ok (.isub, 1) := by decide +kernel
theorem dX2_countOrders_81 : decode cX2_countOrders 81 = .ok (.laload, 1) := by decide +kernel
theorem dX2_countOrders_82 : decode cX2_countOrders 82 = .ok (.ladd, 1) := by decide +kernel
theorem dX2_countOrders_83 : decode cX2_countOrders 83 = .ok (.lastore, 1) := by decide +kernel
theorem dX2_countOrders_84 : decode cX2_countOrders 84 = .ok (.iinc 4 1, 3) := by decide +kernel
theorem dX2_countOrders_87 : decode cX2_countOrders 87 = .ok (.goto (-33), 3) := by decide +kernel
theorem dX2_countOrders_90 : decode cX2_countOrders 90 = .ok (.iinc 3 1, 3) := by decide +kernel
theorem dX2_countOrders_93 : decode cX2_countOrders 93 = .ok (.goto (-55), 3) := by decide +kernel
theorem dX2_countOrders_96 : decode cX2_countOrders 96 = .ok (.iconst 0, 1) := by decide +kernel
theorem dX2_countOrders_97 : decode cX2_countOrders 97 = .ok (.istore_n 3, 1) := by decide +kernel
theorem dX2_countOrders_98 : decode cX2_countOrders 98 = .ok (.iload_n 3, 1) := by decide +kernel
theorem dX2_countOrders_99 : decode cX2_countOrders 99 = .ok (.bipush 30, 2) := by decide +kernel
theorem dX2_countOrders_101 : decode cX2_countOrders 101 = .ok (.if_icmp .ge 21, 3) := by decide +kernel
theorem dX2_countOrders_104 : decode cX2_countOrders 104 = .ok (.aload_n 0, 1) := by decide +kernel
theorem dX2_countOrders_105 : decode cX2_countOrders 105 = .ok (.getfield 53, 3) := by decide +kernel
theorem dX2_countOrders_108 : decode cX2_countOrders 108 = .ok (.iload_n 3, 1) := by decide +kernel
theorem dX2_countOrders_109 : decode cX2_countOrders 109 = .ok (.aload_n 0, 1) := by decide +kernel
theorem dX2_countOrders_110 : decode cX2_countOrders 110 = .ok (.getfield 56, 3) := by decide +kernel
theorem dX2_countOrders_113 : decode cX2_countOrders 113 = .ok (.iload_n 3, 1) := by decide +kernel
theorem dX2_countOrders_114 : decode cX2_countOrders 114 = .ok (.laload, 1) := by decide +kernel
theorem dX2_countOrders_115 : decode cX2_countOrders 115 = .ok (.lastore, 1) := by decide +kernel
theorem dX2_countOrders_116 : decode cX2_countOrders 116 = .ok (.iinc 3 1, 3) := by decide +kernel
theorem dX2_countOrders_119 : decode cX2_countOrders 119 = .ok (.goto (-21), 3) := by decide +kernel
theorem dX2_countOrders_122 : decode cX2_countOrders 122 = .ok (.iinc 2 1, 3) := by decide +kernel
theorem dX2_countOrders_125 : decode cX2_countOrders 125 = .ok (.goto (-94), 3) := by decide +kernel
theorem dX2_countOrders_128 : decode cX2_countOrders 128 = .ok (.return_, 1) := by decide +kernel
end
section
/-! the reference's world -/
def wM (g : Nat → ClassId) (q : Nat → Nat) (a : Nat → Nat → Int32) (b : Nat → Nat → Int64) : va_W :=
  [(q 0, .inr (2, [.int (a 0 5), .ref (q 1), .ref (q 2), .ref (q 3), .int (a 0 0), .int (a 0 1), .int (a 0 2), .long (b 0 0), .int (a 0 3), .ref (q 4), .ref (q 5), .ref (q 6), .int (a 0 4), .ref (q 8), .ref (q 7), .long (b 0 1), .long (b 0 2), .ref (q 9), .ref (q 10), .ref (q 11), .ref (q 12), .ref (q 13)])),
   (q 1, aJ g 6 (b 1)), (q 2, aI g 6 (a 2)), (q 3, aI g 6 (a 3)), (q 4, aI g 4 (a 4)), (q 5, aI g 4 (a 5)), (q 6, aI g 400 (a 6)), (q 7, aJ g 400 (b 7)), (q 8, aJ g 9 (b 8)), (q 9, aI g 4 (a 9)), (q 10, aI g 32 (a 10)), (q 11, aI g 32 (a 11)), (q 12, aJ g 30 (b 12)), (q 13, aJ g 30 (b 13))]
abbrev zT : Type := (Nat → Nat → Int32) × (Nat → Nat → Int64)
theorem m_p1 {x : Int32} (h : x < 0) : (0 : Int32) = zb (m_parts x) := by
  have e : m_parts x = false := by
    rw [Bool.eq_false_iff]
    unfold m_parts
    intro h2
    rw [m_wi, m_i2l] at h2
    rw [Int32.lt_iff_toInt_lt] at h
    have e1 : (0 : Int64).toInt = 0 := by decide
    have e2 : (0 : Int32).toInt = 0 := by decide
    omega
  rw [e]; rfl
theorem m_p2 {x : Int32} (h : 1000 < x) : (0 : Int32) = zb (m_parts x) := by
  have e : m_parts x = false := by
    rw [Bool.eq_false_iff]
    unfold m_parts
    intro h2
    rw [m_wi, m_i2l] at h2
    rw [Int32.lt_iff_toInt_lt] at h
    have e1 : (1000 : Int64).toInt = 1000 := by decide
    have e2 : (1000 : Int32).toInt = 1000 := by decide
    omega
  rw [e]; rfl
theorem m_p3 {x : Int32} (h : ¬ x < 0) (h1 : ¬ 1000 < x) : (1 : Int32) = zb (m_parts x) := by
  have e : m_parts x = true := by
    unfold m_parts
    rw [m_wi, m_i2l]
    rw [Int32.lt_iff_toInt_lt] at h h1
    have e1 : (0 : Int64).toInt = 0 := by decide
    have e2 : (0 : Int32).toInt = 0 := by decide
    have e3 : (1000 : Int64).toInt = 1000 := by decide
    have e4 : (1000 : Int32).toInt = 1000 := by decide
    omega
  rw [e]; rfl
theorem m_q1 {x : Int32} (h : x < 0) : (0 : Int32) = zb (m_isWell x) := by
  have e : m_isWell x = false := by
    rw [Bool.eq_false_iff]
    unfold m_isWell
    intro h2
    rw [m_wi, m_i2l] at h2
    rw [Int32.lt_iff_toInt_lt] at h
    have e1 : (0 : Int64).toInt = 0 := by decide
    have e2 : (0 : Int32).toInt = 0 := by decide
    omega
  rw [e]; rfl
theorem m_q2 {x : Int32} (h : 4 ≤ x) : (0 : Int32) = zb (m_isWell x) := by
  have e : m_isWell x = false := by
    rw [Bool.eq_false_iff]
    unfold m_isWell
    intro h2
    rw [m_wi, m_i2l] at h2
    rw [Int32.le_iff_toInt_le] at h
    have e1 : (3 : Int64).toInt = 3 := by decide
    have e2 : (4 : Int32).toInt = 4 := by decide
    omega
  rw [e]; rfl
theorem m_q3 {x : Int32} (h : ¬ x < 0) (h1 : ¬ 4 ≤ x) : (1 : Int32) = zb (m_isWell x) := by
  have e : m_isWell x = true := by
    unfold m_isWell
    rw [m_wi, m_i2l]
    rw [Int32.lt_iff_toInt_lt] at h
    rw [Int32.le_iff_toInt_le] at h1
    have e1 : (0 : Int64).toInt = 0 := by decide
    have e2 : (0 : Int32).toInt = 0 := by decide
    have e3 : (3 : Int64).toInt = 3 := by decide
    have e4 : (4 : Int32).toInt = 4 := by decide
    omega
  rw [e]; rfl
theorem m_selfA (a : Nat → Nat → Int32) (i j : Nat) : va_up a i (upd (a i) j (a i j)) = a := by
  funext x y
  unfold va_up upd
  by_cases h : x = i
  · subst h
    by_cases h2 : y = j
    · subst h2; simp
    · simp [h2]
  · simp [h]
theorem m_selfB (a : Nat → Nat → Int64) (i j : Nat) : va_up a i (vp_updL (a i) j (a i j)) = a := by
  funext x y
  unfold va_up vp_updL
  by_cases h : x = i
  · subst h
    by_cases h2 : y = j
    · subst h2; simp
    · simp [h2]
  · simp [h]
theorem m_min_ge {x y : Int64} (h : x ≤ y) : x = m_min x y := by
  have e : ¬ y < x := by rw [Int64.lt_iff_toInt_lt]; rw [Int64.le_iff_toInt_le] at h; omega
  unfold m_min; rw [if_neg e]
theorem m_min_lt {x y : Int64} (h : ¬ x ≤ y) : y = m_min x y := by
  have e : y < x := by rw [Int64.lt_iff_toInt_lt]; rw [Int64.le_iff_toInt_le] at h; omega
  unfold m_min; rw [if_pos e]
theorem m_out0 {p : Int32} {x : Int64} (h : x ≤ 0) : (0 : Int64) = m_of p (m_max0 x) := by
  have e0 : (0 : Int64) * p.toInt64 / 1000 = 0 := by rw [Int64.zero_mul]; decide
  have e : m_max0 x = 0 := by
    unfold m_max0
    by_cases h2 : x < 0
    · rw [if_pos h2]
    · rw [if_neg h2]
      apply Int64.toInt_inj.mp
      rw [Int64.lt_iff_toInt_lt] at h2
      rw [Int64.le_iff_toInt_le] at h
      omega
  rw [e]
  exact e0.symm
theorem m_out1 {p : Int32} {x : Int64} (h : ¬ x ≤ 0) : m_of p x = m_of p (m_max0 x) := by
  have e : m_max0 x = x := by
    unfold m_max0
    have h2 : ¬ x < 0 := by rw [Int64.lt_iff_toInt_lt]; rw [Int64.le_iff_toInt_le] at h; omega
    rw [if_neg h2]
  rw [e]
/-! what the reference's methods compute -/
def r_cl (rs ks : Nat → Int32) (f : Nat → Int64) : Nat → (Nat → Int64) × Int64 × Int64
  | 0 => (f, f 7, 0)
  | k + 1 =>
    let r := r_cl rs ks f k
    let t := m_min (rs k).toInt64 r.2.1
    let kp := m_of (ks k) t
    (vp_updL r.1 5 (r.1 5 + kp), t - kp, r.2.2 + (r.2.1 - t))
def r_stg (sc : Nat) (a : Nat → Nat → Int32) (b : Nat → Nat → Int64) (d : Nat) : Nat → Nat → Int64 :=
  if sc = 0 then b else
    let r := r_cl (a 4) (a 5) (b 8) sc
    let gb := m_of (a 0 2) r.2.1
    va_up (va_up b 7 (vp_updL (b 7) d (r.2.1 - gb))) 8 (vp_updL (vp_updL (vp_updL r.1 7 r.2.2) 8 gb) 6 (r.1 6 + (r.2.1 - gb)))
def r_in (a : Nat → Nat → Int32) (b : Nat → Nat → Int64) (r : Int64) : Nat → Nat → Int64 :=
  va_up (va_up b 1 (vp_updL (b 1) 0 (b 1 0 + (r - m_of (a 0 0) r + b 8 8)))) 8 (vp_updL (vp_updL (vp_updL (b 8) 0 (b 8 0 + r)) 1 (b 8 1 + m_of (a 0 0) r)) 8 0)
def r_over (t r : Int64) : Int64 := if t ≤ r then 0 else t - r
def r_mid (n : Nat) (a : Nat → Nat → Int32) (b : Nat → Nat → Int64) (d : Nat) : Nat → Nat → Int64 :=
  let b1 := r_in a b (a 6 d).toInt64
  let r := m_pd (a 2) (a 3) (b1 1) n
  let dr := m_of (a 0 1) r.2
  let t := b1 8 7 + dr
  let ov := r_over t (b 0 0)
  va_up (va_up (va_up b1 1 r.1) 7 (vp_updL (b1 7) d 0)) 8 (vp_updL (vp_updL (vp_updL (vp_updL (vp_updL (b1 8) 2 (b1 8 2 + r.2)) 3 (b1 8 3 + (r.2 - dr))) 7 t) 4 (b1 8 4 + ov)) 7 (t - ov))
def r_day (n sc : Nat) (a : Nat → Nat → Int32) (b : Nat → Nat → Int64) (d : Nat) : Nat → Nat → Int64 := r_stg sc a (r_mid n a b d) d
def r_run (n sc : Nat) (a : Nat → Nat → Int32) (b : Nat → Nat → Int64) (d : Nat) : Nat → Nat → Nat → Int64
  | 0 => b
  | i + 1 => r_day n sc a (r_run n sc a b d i) (d + i)
def r_ti (f : Nat → Int32) (i : Nat) (z : Int32) : Nat → Int32
  | 0 => z
  | j + 1 => r_ti f i z j + (if f (i + 1 + j) ≤ f i then -1 else 1)
def r_to (f : Nat → Int32) (c : Nat) : Nat → Int32
  | 0 => 0
  | i + 1 => r_ti f i (r_to f c i) (c - (i + 1))
def r_o0 (f : Nat → Int64) : Nat → Nat → Int64
  | 0 => f
  | k + 1 => vp_updL (r_o0 f k) k (if k = 0 then 1 else 0)
def r_D (o m : Nat → Int64) (k : Nat) : Nat → Nat → Int64
  | 0 => vp_updL m k 0
  | t + 1 => vp_updL (r_D o m k t) k (r_D o m k t k + o (k - t))
def r_C (o m : Nat → Int64) (z : Nat) : Nat → Nat → Int64
  | 0 => m
  | k + 1 => r_D o (r_C o m z k) k (min z (k + 1))
def r_E (o m : Nat → Int64) : Nat → Nat → Int64
  | 0 => o
  | k + 1 => vp_updL (r_E o m k) k (m k)
def r_B (o m : Nat → Int64) : Nat → (Nat → Int64) × (Nat → Int64)
  | 0 => (r_o0 o 30, m)
  | i + 1 =>
    let r := r_B o m i
    let m2 := r_C r.1 r.2 (2 + i) 30
    (r_E r.1 m2 30, m2)
def r_ab (t : Int32) : Int32 := if 0 ≤ t then t else -t
def r_ad (o : Nat → Int64) (P : Nat) (F : Int32) (k : Nat) : Int64 := if F ≤ nI P - 2 * nI k then o k else if -(nI P - 2 * nI k) < F then 0 else o k
def r_abv (o : Nat → Int64) (P : Nat) (F : Int32) : Nat → Int64
  | 0 => 0
  | k + 1 => r_abv o P F k + r_ad o P F k
def r_blw (o : Nat → Int64) : Nat → Int64
  | 0 => 0
  | k + 1 => r_blw o k + o k
end
section
def rm_M_isIn : Room := { frames := 0, cells := 0, slots := 0, locals := 0 }
set_option maxHeartbeats 4000000 in
set_option maxRecDepth 100000 in
theorem c_M_isIn (l : Launch) (D : va_G) (tys : List (ClassId × FieldType)) (v lo hi : Int64) : zc_i l D tys yX2_isIn cX2_isIn 6 (some .boolean) rm_M_isIn [.long v, .long lo, .long hi] ([]) (fun (r : Int32) (u : Unit) => r = zb (m_within v lo hi)) (fun _ => []) 0 0 := by
  refine zi_of (by decide) (Nat.le_of_ble_eq_true rfl) rfl ?_
  intro p e s m args below meth cd_ A Q ls C0 hnm hP hD hS hl hret
  obtain ⟨hx, hb, hr, hml, hlocks, hown, hts, hK, hA, hN⟩ := id C0
  have hl : lv_has ls 6 [(0, .long v), (2, .long lo), (4, .long hi)] := hl
  refine lv_lload_n hx hb dX2_isIn_0 rfl (lv_at hl 0 rfl) ?_
  refine lv_lload_n hx hb dX2_isIn_1 rfl (lv_at hl 1 rfl) ?_
  refine zl_lt (tgt := 17) hx hb dX2_isIn_2 dX2_isIn_3 (by decide) (fun c_2 => ?_) (fun c_2 => ?_)
  · -- jump at 2
    refine lv_iconst (v := 0) hx hb dX2_isIn_17 (by decide) ?_
    exact hret 0 () _ _ _ _ _ _ rfl (by first | exact m_w1 c_2 c_9 | exact m_w2 c_2 | exact m_w3 c_9) hP hD hS (Nat.le_of_ble_eq_true rfl) (Nat.le_of_ble_eq_true rfl) dX2_isIn_18
  · -- on at 2
    refine lv_lload_n hx hb dX2_isIn_6 rfl (lv_at hl 0 rfl) ?_
    refine lv_lload hx hb dX2_isIn_7 (lv_at hl 2 rfl) ?_
    refine zl_gt (tgt := 17) hx hb dX2_isIn_9 dX2_isIn_10 (by decide) (fun c_9 => ?_) (fun c_9 => ?_)
    · -- jump at 9
      refine lv_iconst (v := 0) hx hb dX2_isIn_17 (by decide) ?_
      exact hret 0 () _ _ _ _ _ _ rfl (by first | exact m_w1 c_2 c_9 | exact m_w2 c_2 | exact m_w3 c_9) hP hD hS (Nat.le_of_ble_eq_true rfl) (Nat.le_of_ble_eq_true rfl) dX2_isIn_18
    · -- on at 9
      refine lv_iconst (v := 1) hx hb dX2_isIn_13 (by decide) ?_
      refine lv_goto (tgt := 18) hx hb dX2_isIn_14 (by decide) ?_
      exact hret 1 () _ _ _ _ _ _ rfl (by first | exact m_w1 c_2 c_9 | exact m_w2 c_2 | exact m_w3 c_9) hP hD hS (Nat.le_of_ble_eq_true rfl) (Nat.le_of_ble_eq_true rfl) dX2_isIn_18
def rm_M_isParts : Room := { frames := 0, cells := 0, slots := 0, locals := 0 }
set_option maxHeartbeats 4000000 in
set_option maxRecDepth 100000 in
theorem c_M_isParts (l : Launch) (D : va_G) (tys : List (ClassId × FieldType)) (x : Int32) : zc_i l D tys yX2_isParts cX2_isParts 1 (some .boolean) rm_M_isParts [.int x] ([]) (fun (r : Int32) (u : Unit) => r = zb (m_parts x)) (fun _ => []) 0 0 := by
  refine zi_of (by decide) (Nat.le_of_ble_eq_true rfl) rfl ?_
  intro p e s m args below meth cd_ A Q ls C0 hnm hP hD hS hl hret
  obtain ⟨hx, hb, hr, hml, hlocks, hown, hts, hK, hA, hN⟩ := id C0
  have hl : lv_has ls 1 [(0, .int x)] := hl
  refine lv_iload_n hx hb dX2_isParts_0 rfl (lv_at hl 0 rfl) ?_
  refine lv_if_lt (tgt := 15) hx hb dX2_isParts_1 (by decide) (fun c_1 => ?_) (fun c_1 => ?_)
  · -- jump at 1
    refine lv_iconst (v := 0) hx hb dX2_isParts_15 (by decide) ?_
    exact hret 0 () _ _ _ _ _ _ rfl (by first | exact m_p3 c_1 c_8 | exact m_p1 c_1 | exact m_p2 c_8) hP hD hS (Nat.le_of_ble_eq_true rfl) (Nat.le_of_ble_eq_true rfl) dX2_isParts_16
  · -- on at 1
    refine lv_iload_n hx hb dX2_isParts_4 rfl (lv_at hl 0 rfl) ?_
    refine lv_sipush (v := 1000) hx hb dX2_isParts_5 (by decide) ?_
    refine lv_icmp_gt (tgt := 15) hx hb dX2_isParts_8 (by decide) (fun c_8 => ?_) (fun c_8 => ?_)
    · -- jump at 8
      refine lv_iconst (v := 0) hx hb dX2_isParts_15 (by decide) ?_
      exact hret 0 () _ _ _ _ _ _ rfl (by first | exact m_p3 c_1 c_8 | exact m_p1 c_1 | exact m_p2 c_8) hP hD hS (Nat.le_of_ble_eq_true rfl) (Nat.le_of_ble_eq_true rfl) dX2_isParts_16
    · -- on at 8
      refine lv_iconst (v := 1) hx hb dX2_isParts_11 (by decide) ?_
      refine lv_goto (tgt := 16) hx hb dX2_isParts_12 (by decide) ?_
      exact hret 1 () _ _ _ _ _ _ rfl (by first | exact m_p3 c_1 c_8 | exact m_p1 c_1 | exact m_p2 c_8) hP hD hS (Nat.le_of_ble_eq_true rfl) (Nat.le_of_ble_eq_true rfl) dX2_isParts_16
def rm_M_isWell : Room := { frames := 0, cells := 0, slots := 0, locals := 0 }
set_option maxHeartbeats 4000000 in
set_option maxRecDepth 100000 in
theorem c_M_isWell (l : Launch) (D : va_G) (tys : List (ClassId × FieldType)) (x : Int32) : zc_i l D tys yX2_isWell cX2_isWell 1 (some .boolean) rm_M_isWell [.int x] ([]) (fun (r : Int32) (u : Unit) => r = zb (m_isWell x)) (fun _ => []) 0 0 := by
  refine zi_of (by decide) (Nat.le_of_ble_eq_true rfl) rfl ?_
  intro p e s m args below meth cd_ A Q ls C0 hnm hP hD hS hl hret
  obtain ⟨hx, hb, hr, hml, hlocks, hown, hts, hK, hA, hN⟩ := id C0
  have hl : lv_has ls 1 [(0, .int x)] := hl
  refine lv_iload_n hx hb dX2_isWell_0 rfl (lv_at hl 0 rfl) ?_
  refine lv_if_lt (tgt := 13) hx hb dX2_isWell_1 (by decide) (fun c_1 => ?_) (fun c_1 => ?_)
  · -- jump at 1
    refine lv_iconst (v := 0) hx hb dX2_isWell_13 (by decide) ?_
    exact hret 0 () _ _ _ _ _ _ rfl (by first | exact m_q3 c_1 c_6 | exact m_q1 c_1 | exact m_q2 c_6) hP hD hS (Nat.le_of_ble_eq_true rfl) (Nat.le_of_ble_eq_true rfl) dX2_isWell_14
  · -- on at 1
    refine lv_iload_n hx hb dX2_isWell_4 rfl (lv_at hl 0 rfl) ?_
    refine lv_iconst (v := 4) hx hb dX2_isWell_5 (by decide) ?_
    refine lv_icmp_ge (tgt := 13) hx hb dX2_isWell_6 (by decide) (fun c_6 => ?_) (fun c_6 => ?_)
    · -- jump at 6
      refine lv_iconst (v := 0) hx hb dX2_isWell_13 (by decide) ?_
      exact hret 0 () _ _ _ _ _ _ rfl (by first | exact m_q3 c_1 c_6 | exact m_q1 c_1 | exact m_q2 c_6) hP hD hS (Nat.le_of_ble_eq_true rfl) (Nat.le_of_ble_eq_true rfl) dX2_isWell_14
    · -- on at 6
      refine lv_iconst (v := 1) hx hb dX2_isWell_9 (by decide) ?_
      refine lv_goto (tgt := 14) hx hb dX2_isWell_10 (by decide) ?_
      exact hret 1 () _ _ _ _ _ _ rfl (by first | exact m_q3 c_1 c_6 | exact m_q1 c_1 | exact m_q2 c_6) hP hD hS (Nat.le_of_ble_eq_true rfl) (Nat.le_of_ble_eq_true rfl) dX2_isWell_14
def rm_M_partsOf : Room := { frames := 0, cells := 0, slots := 0, locals := 0 }
set_option maxHeartbeats 4000000 in
set_option maxRecDepth 100000 in
theorem c_M_partsOf (l : Launch) (D : va_G) (tys : List (ClassId × FieldType)) (v : Int64) (x : Int32) : zc_l l D tys yX2_partsOf cX2_partsOf 3 (some .long) rm_M_partsOf [.long v, .int x] ([]) (fun (r : Int64) (u : Unit) => r = m_of x v) (fun _ => []) 0 0 := by
  refine zl_of (by decide) (Nat.le_of_ble_eq_true rfl) rfl ?_
  intro p e s m args below meth cd_ A Q ls C0 hnm hP hD hS hl hret
  obtain ⟨hx, hb, hr, hml, hlocks, hown, hts, hK, hA, hN⟩ := id C0
  have hl : lv_has ls 3 [(0, .long v), (2, .int x)] := hl
  refine lv_lload_n hx hb dX2_partsOf_0 rfl (lv_at hl 0 rfl) ?_
  refine lv_iload_n hx hb dX2_partsOf_1 rfl (lv_at hl 1 rfl) ?_
  refine lv_i2l (v := x.toInt64) hx hb dX2_partsOf_2 rfl ?_
  refine lv_lmul hx hb dX2_partsOf_3 ?_
  refine lv_ldc2 (v := 1000) hx hb hown (hts _ kc_X2_101) dX2_partsOf_4 ?_
  refine lv_ldiv hx hb dX2_partsOf_7 (by decide) ?_
  exact hret ((v * x.toInt64) / 1000) () _ _ _ _ _ _ rfl hP hD hS (Nat.le_of_ble_eq_true rfl) (Nat.le_of_ble_eq_true rfl) dX2_partsOf_8
def rm_M_layer : Room := { frames := 1, cells := 0, slots := 0, locals := 25 }
set_option maxHeartbeats 4000000 in
set_option maxRecDepth 100000 in
theorem c_M_layer (l : Launch) (D : va_G) (g : Nat → ClassId) (q : Nat → Nat) (a : Nat → Nat → Int32) (b : Nat → Nat → Int64) (n : Nat) (hn : 1 ≤ n ∧ n ≤ 6) (hly : a 0 5 = nI n) (x y z : Int32) : zc_i l D (tyG g) yX2_layer cX2_layer 4 (some .boolean) rm_M_layer [.ref (q 0), .int x, .int y, .int z] (wM g q a b) (fun (r : Int32) (u : zT) => r = zb (m_isLayer n x && m_within y.toInt64 0 1000000 && m_parts z) ∧ u = if (m_isLayer n x && m_within y.toInt64 0 1000000 && m_parts z) = true then (va_up (va_up a 2 (upd (a 2) x.toNatClampNeg y)) 3 (upd (a 3) x.toNatClampNeg z), b) else (a, b)) (fun u => wM g q u.1 u.2) 0 0 := by
  refine zi_of (by decide) (Nat.le_of_ble_eq_true rfl) rfl ?_
  intro p e s m args below meth cd_ A Q ls C0 hnm hP hD hS hl hret
  obtain ⟨hx, hb, hr, hml, hlocks, hown, hts, hK, hA, hN⟩ := id C0
  have hl : lv_has ls 4 [(0, .ref (q 0)), (1, .int x), (2, .int y), (3, .int z)] := hl
  refine lv_iload_n hx hb dX2_layer_0 rfl (lv_at hl 1 rfl) ?_
  refine lv_i2l (v := x.toInt64) hx hb dX2_layer_1 rfl ?_
  refine lv_lconst (v := 0) hx hb dX2_layer_2 (by decide) ?_
  refine lv_aload_n hx hb dX2_layer_3 rfl (lv_at hl 0 rfl) ?_
  refine va_get (D := D) (ci := 2) (v := .int (a 0 5)) (C := RX2) (T := TX2) (N := 22) hx hb hts iw_X2 hown hK hP 0 rfl rfl 0 (by decide) (hts _ kf_X2_59) (fun _ h9 => h9) rfl dX2_layer_4 ?_
  rw [hly]
  refine lv_iconst (v := 1) hx hb dX2_layer_7 (by decide) ?_
  refine lv_isub hx hb dX2_layer_8 ?_
  refine lv_i2l (v := ((nI n) - 1).toInt64) hx hb dX2_layer_9 rfl ?_
  refine zk_pi (rest := []) C0 hP hD hS (c_M_isIn l D (tyG g) x.toInt64 (0 : Int64) (((nI n) - 1).toInt64)) kk_X2_63 hl.1 rfl rfl (Nat.le_of_ble_eq_true rfl) ⟨(Nat.le_of_ble_eq_true rfl), (Nat.le_of_ble_eq_true rfl)⟩ rfl rfl ⟨(Nat.le_of_ble_eq_true rfl), (Nat.le_of_ble_eq_true rfl)⟩ dX2_layer_10 (fun r_10 H locs hw_10 hP hS => ?_)
  obtain rfl := hw_10
  refine lv_if_eq (tgt := 35) hx hb dX2_layer_13 (by decide) (fun c_13 => ?_) (fun c_13 => ?_)
  · -- jump at 13
    have c_13 := zb_f c_13
    have c_13 : m_isLayer n x = false := c_13
    refine lv_iconst (v := 0) hx hb dX2_layer_35 (by decide) ?_
    exact hret 0 (a, b) _ _ _ _ _ _ rfl (by simp [zb, c_13]) hP hD hS (Nat.le_of_ble_eq_true rfl) (Nat.le_of_ble_eq_true rfl) dX2_layer_36
  · -- on at 13
    have c_13 := zb_t c_13
    have c_13 : m_isLayer n x = true := c_13
    obtain ⟨k, hk, rfl⟩ := m_layer_k hn c_13
    have hcl : (nI k).toNatClampNeg = k := nI_clamp (by omega)
    refine lv_iload_n hx hb dX2_layer_16 rfl (lv_at hl 2 rfl) ?_
    refine lv_i2l (v := y.toInt64) hx hb dX2_layer_17 rfl ?_
    refine lv_lconst (v := 0) hx hb dX2_layer_18 (by decide) ?_
    refine lv_ldc2 (v := 1000000) hx hb hown (hts _ kc_X2_67) dX2_layer_19 ?_
    refine zk_pi (rest := []) C0 hP hD hS (c_M_isIn l D (tyG g) y.toInt64 (0 : Int64) (1000000 : Int64)) kk_X2_63 hl.1 rfl rfl (Nat.le_of_ble_eq_true rfl) ⟨(Nat.le_of_ble_eq_true rfl), (Nat.le_of_ble_eq_true rfl)⟩ rfl rfl ⟨(Nat.le_of_ble_eq_true rfl), (Nat.le_of_ble_eq_true rfl)⟩ dX2_layer_22 (fun r_22 H locs hw_22 hP hS => ?_)
    obtain rfl := hw_22
    refine lv_if_eq (tgt := 35) hx hb dX2_layer_25 (by decide) (fun c_25 => ?_) (fun c_25 => ?_)
    · -- jump at 25
      have c_25 := zb_f c_25
      refine lv_iconst (v := 0) hx hb dX2_layer_35 (by decide) ?_
      exact hret 0 (a, b) _ _ _ _ _ _ rfl (by simp [zb, c_13, c_25, hcl]) hP hD hS (Nat.le_of_ble_eq_true rfl) (Nat.le_of_ble_eq_true rfl) dX2_layer_36
    · -- on at 25
      have c_25 := zb_t c_25
      refine lv_iload_n hx hb dX2_layer_28 rfl (lv_at hl 3 rfl) ?_
      refine zk_pi (rest := []) C0 hP hD hS (c_M_isParts l D (tyG g) z) kk_X2_69 hl.1 rfl rfl (Nat.le_of_ble_eq_true rfl) ⟨(Nat.le_of_ble_eq_true rfl), (Nat.le_of_ble_eq_true rfl)⟩ rfl rfl ⟨(Nat.le_of_ble_eq_true rfl), (Nat.le_of_ble_eq_true rfl)⟩ dX2_layer_29 (fun r_29 H locs hw_29 hP hS => ?_)
      obtain rfl := hw_29
      refine lv_if_ne (tgt := 37) hx hb dX2_layer_32 (by decide) (fun c_32 => ?_) (fun c_32 => ?_)
      · -- jump at 32
        have c_32 := zb_t c_32
        refine lv_aload_n hx hb dX2_layer_37 rfl (lv_at hl 0 rfl) ?_
        refine va_get (D := D) (ci := 2) (v := .ref (q 2)) (C := RX2) (T := TX2) (N := 22) hx hb hts iw_X2 hown hK hP 0 rfl rfl 2 (by decide) (hts _ kf_X2_13) (fun _ h9 => h9) rfl dX2_layer_38 ?_
        refine lv_iload_n hx hb dX2_layer_41 rfl (lv_at hl 1 rfl) ?_
        refine lv_iload_n hx hb dX2_layer_42 rfl (lv_at hl 2 rfl) ?_
        refine za_iast (k := k) (x := y) (f := (a 2)) hx hb hK hP hD hS 2 0 rfl rfl rfl (by omega) (by decide) dX2_layer_43 (fun H locs hP hD hS => ?_)
        have hP : va_P D vwCl (wM g q (va_up a 2 (upd (a 2) k y)) b) H := hP
        have hD : va_D A (wM g q (va_up a 2 (upd (a 2) k y)) b) := hD
        refine lv_aload_n hx hb dX2_layer_44 rfl (lv_at hl 0 rfl) ?_
        refine va_get (D := D) (ci := 2) (v := .ref (q 3)) (C := RX2) (T := TX2) (N := 22) hx hb hts iw_X2 hown hK hP 0 rfl rfl 3 (by decide) (hts _ kf_X2_17) (fun _ h9 => h9) rfl dX2_layer_45 ?_
        refine lv_iload_n hx hb dX2_layer_48 rfl (lv_at hl 1 rfl) ?_
        refine lv_iload_n hx hb dX2_layer_49 rfl (lv_at hl 3 rfl) ?_
        refine za_iast (k := k) (x := z) (f := (a 3)) hx hb hK hP hD hS 3 0 rfl rfl rfl (by omega) (by decide) dX2_layer_50 (fun H locs hP hD hS => ?_)
        have hP : va_P D vwCl (wM g q (va_up (va_up a 2 (upd (a 2) k y)) 3 (upd (a 3) k z)) b) H := hP
        have hD : va_D A (wM g q (va_up (va_up a 2 (upd (a 2) k y)) 3 (upd (a 3) k z)) b) := hD
        refine lv_iconst (v := 1) hx hb dX2_layer_51 (by decide) ?_
        exact hret 1 (va_up (va_up a 2 (upd (a 2) k y)) 3 (upd (a 3) k z), b) _ _ _ _ _ _ rfl (by simp [zb, c_13, c_25, c_32, hcl]) hP hD hS (Nat.le_of_ble_eq_true rfl) (Nat.le_of_ble_eq_true rfl) dX2_layer_52
      · -- on at 32
        have c_32 := zb_f c_32
        refine lv_iconst (v := 0) hx hb dX2_layer_35 (by decide) ?_
        exact hret 0 (a, b) _ _ _ _ _ _ rfl (by simp [zb, c_13, c_25, c_32, hcl]) hP hD hS (Nat.le_of_ble_eq_true rfl) (Nat.le_of_ble_eq_true rfl) dX2_layer_36
def rm_M_cover : Room := { frames := 1, cells := 0, slots := 0, locals := 20 }
set_option maxHeartbeats 4000000 in
set_option maxRecDepth 100000 in
theorem c_M_cover (l : Launch) (D : va_G) (g : Nat → ClassId) (q : Nat → Nat) (a : Nat → Nat → Int32) (b : Nat → Nat → Int64) (x : Int32) : zc_i l D (tyG g) yX2_cover cX2_cover 2 (some .boolean) rm_M_cover [.ref (q 0), .int x] (wM g q a b) (fun (r : Int32) (u : zT) => r = zb (m_parts x) ∧ u = if m_parts x = true then (va_up a 0 (upd (a 0) 0 x), b) else (a, b)) (fun u => wM g q u.1 u.2) 0 0 := by
  refine zi_of (by decide) (Nat.le_of_ble_eq_true rfl) rfl ?_
  intro p e s m args below meth cd_ A Q ls C0 hnm hP hD hS hl hret
  obtain ⟨hx, hb, hr, hml, hlocks, hown, hts, hK, hA, hN⟩ := id C0
  have hl : lv_has ls 2 [(0, .ref (q 0)), (1, .int x)] := hl
  refine lv_aload_n hx hb dX2_cover_0 rfl (lv_at hl 0 rfl) ?_
  refine lv_iload_n hx hb dX2_cover_1 rfl (lv_at hl 1 rfl) ?_
  refine zk_pi (rest := [.ref (q 0)]) C0 hP hD hS (c_M_isParts l D (tyG g) x) kk_X2_69 hl.1 rfl rfl (Nat.le_of_ble_eq_true rfl) ⟨(Nat.le_of_ble_eq_true rfl), (Nat.le_of_ble_eq_true rfl)⟩ rfl rfl ⟨(Nat.le_of_ble_eq_true rfl), (Nat.le_of_ble_eq_true rfl)⟩ dX2_cover_2 (fun r_2 H locs hw_2 hP hS => ?_)
  obtain rfl := hw_2
  refine lv_if_eq (tgt := 12) hx hb dX2_cover_5 (by decide) (fun c_5 => ?_) (fun c_5 => ?_)
  · -- jump at 5
    have c_5 := zb_f c_5
    refine lv_aload_n hx hb dX2_cover_12 rfl (lv_at hl 0 rfl) ?_
    refine va_get (D := D) (ci := 2) (v := .int (a 0 0)) (C := RX2) (T := TX2) (N := 22) hx hb hts iw_X2 hown hK hP 0 rfl rfl 4 (by decide) (hts _ kf_X2_73) (fun _ h9 => h9) rfl dX2_cover_13 ?_
    refine va_put (D := D) (ci := 2) (v := .int (a 0 0)) (ty := .int) (C := RX2) (T := TX2) (N := 22) hx hb hts iw_X2 tyX2 tyok_X2 nm_X2 hown hK hP hD hS 0 rfl rfl 4 (by decide) (hts _ kf_X2_73) (fun _ h9 => h9) rfl (by decide +kernel) rfl rfl (Nat.le_of_ble_eq_true rfl) dX2_cover_16 (fun H locs hP hD hS => ?_)
    have hP : va_P D vwCl (wM g q (va_up a 0 (upd (a 0) 0 (a 0 0))) b) H := hP
    have hD : va_D A (wM g q (va_up a 0 (upd (a 0) 0 (a 0 0))) b) := hD
    refine lv_iload_n hx hb dX2_cover_19 rfl (lv_at hl 1 rfl) ?_
    refine zk_pi (rest := []) C0 hP hD hS (c_M_isParts l D (tyG g) x) kk_X2_69 hl.1 rfl rfl (Nat.le_of_ble_eq_true rfl) ⟨(Nat.le_of_ble_eq_true rfl), (Nat.le_of_ble_eq_true rfl)⟩ rfl rfl ⟨(Nat.le_of_ble_eq_true rfl), (Nat.le_of_ble_eq_true rfl)⟩ dX2_cover_20 (fun r_20 H locs hw_20 hP hS => ?_)
    obtain rfl := hw_20
    exact hret (zb (m_parts x)) (va_up a 0 (upd (a 0) 0 (a 0 0)), b) _ _ _ _ _ _ (zb_n _) (by simp [c_5, m_selfA]) hP hD hS (Nat.le_of_ble_eq_true rfl) (Nat.le_of_ble_eq_true rfl) dX2_cover_23
  · -- on at 5
    have c_5 := zb_t c_5
    refine lv_iload_n hx hb dX2_cover_8 rfl (lv_at hl 1 rfl) ?_
    refine lv_goto (tgt := 16) hx hb dX2_cover_9 (by decide) ?_
    refine va_put (D := D) (ci := 2) (v := .int x) (ty := .int) (C := RX2) (T := TX2) (N := 22) hx hb hts iw_X2 tyX2 tyok_X2 nm_X2 hown hK hP hD hS 0 rfl rfl 4 (by decide) (hts _ kf_X2_73) (fun _ h9 => h9) rfl (by decide +kernel) rfl rfl (Nat.le_of_ble_eq_true rfl) dX2_cover_16 (fun H locs hP hD hS => ?_)
    have hP : va_P D vwCl (wM g q (va_up a 0 (upd (a 0) 0 x)) b) H := hP
    have hD : va_D A (wM g q (va_up a 0 (upd (a 0) 0 x)) b) := hD
    refine lv_iload_n hx hb dX2_cover_19 rfl (lv_at hl 1 rfl) ?_
    refine zk_pi (rest := []) C0 hP hD hS (c_M_isParts l D (tyG g) x) kk_X2_69 hl.1 rfl rfl (Nat.le_of_ble_eq_true rfl) ⟨(Nat.le_of_ble_eq_true rfl), (Nat.le_of_ble_eq_true rfl)⟩ rfl rfl ⟨(Nat.le_of_ble_eq_true rfl), (Nat.le_of_ble_eq_true rfl)⟩ dX2_cover_20 (fun r_20 H locs hw_20 hP hS => ?_)
    obtain rfl := hw_20
    exact hret (zb (m_parts x)) (va_up a 0 (upd (a 0) 0 x), b) _ _ _ _ _ _ (zb_n _) (by simp [c_5, m_selfA]) hP hD hS (Nat.le_of_ble_eq_true rfl) (Nat.le_of_ble_eq_true rfl) dX2_cover_23
def rm_M_drain : Room := { frames := 1, cells := 0, slots := 0, locals := 20 }
set_option maxHeartbeats 4000000 in
set_option maxRecDepth 100000 in
theorem c_M_drain (l : Launch) (D : va_G) (g : Nat → ClassId) (q : Nat → Nat) (a : Nat → Nat → Int32) (b : Nat → Nat → Int64) (x : Int32) : zc_i l D (tyG g) yX2_drain cX2_drain 2 (some .boolean) rm_M_drain [.ref (q 0), .int x] (wM g q a b) (fun (r : Int32) (u : zT) => r = zb (m_parts x) ∧ u = if m_parts x = true then (va_up a 0 (upd (a 0) 1 x), b) else (a, b)) (fun u => wM g q u.1 u.2) 0 0 := by
  refine zi_of (by decide) (Nat.le_of_ble_eq_true rfl) rfl ?_
  intro p e s m args below meth cd_ A Q ls C0 hnm hP hD hS hl hret
  obtain ⟨hx, hb, hr, hml, hlocks, hown, hts, hK, hA, hN⟩ := id C0
  have hl : lv_has ls 2 [(0, .ref (q 0)), (1, .int x)] := hl
  refine lv_aload_n hx hb dX2_drain_0 rfl (lv_at hl 0 rfl) ?_
  refine lv_iload_n hx hb dX2_drain_1 rfl (lv_at hl 1 rfl) ?_
  refine zk_pi (rest := [.ref (q 0)]) C0 hP hD hS (c_M_isParts l D (tyG g) x) kk_X2_69 hl.1 rfl rfl (Nat.le_of_ble_eq_true rfl) ⟨(Nat.le_of_ble_eq_true rfl), (Nat.le_of_ble_eq_true rfl)⟩ rfl rfl ⟨(Nat.le_of_ble_eq_true rfl), (Nat.le_of_ble_eq_true rfl)⟩ dX2_drain_2 (fun r_2 H locs hw_2 hP hS => ?_)
  obtain rfl := hw_2
  refine lv_if_eq (tgt := 12) hx hb dX2_drain_5 (by decide) (fun c_5 => ?_) (fun c_5 => ?_)
  · -- jump at 5
    have c_5 := zb_f c_5
    refine lv_aload_n hx hb dX2_drain_12 rfl (lv_at hl 0 rfl) ?_
    refine va_get (D := D) (ci := 2) (v := .int (a 0 1)) (C := RX2) (T := TX2) (N := 22) hx hb hts iw_X2 hown hK hP 0 rfl rfl 5 (by decide) (hts _ kf_X2_76) (fun _ h9 => h9) rfl dX2_drain_13 ?_
    refine va_put (D := D) (ci := 2) (v := .int (a 0 1)) (ty := .int) (C := RX2) (T := TX2) (N := 22) hx hb hts iw_X2 tyX2 tyok_X2 nm_X2 hown hK hP hD hS 0 rfl rfl 5 (by decide) (hts _ kf_X2_76) (fun _ h9 => h9) rfl (by decide +kernel) rfl rfl (Nat.le_of_ble_eq_true rfl) dX2_drain_16 (fun H locs hP hD hS => ?_)
    have hP : va_P D vwCl (wM g q (va_up a 0 (upd (a 0) 1 (a 0 1))) b) H := hP
    have hD : va_D A (wM g q (va_up a 0 (upd (a 0) 1 (a 0 1))) b) := hD
    refine lv_iload_n hx hb dX2_drain_19 rfl (lv_at hl 1 rfl) ?_
    refine zk_pi (rest := []) C0 hP hD hS (c_M_isParts l D (tyG g) x) kk_X2_69 hl.1 rfl rfl (Nat.le_of_ble_eq_true rfl) ⟨(Nat.le_of_ble_eq_true rfl), (Nat.le_of_ble_eq_true rfl)⟩ rfl rfl ⟨(Nat.le_of_ble_eq_true rfl), (Nat.le_of_ble_eq_true rfl)⟩ dX2_drain_20 (fun r_20 H locs hw_20 hP hS => ?_)
    obtain rfl := hw_20
    exact hret (zb (m_parts x)) (va_up a 0 (upd (a 0) 1 (a 0 1)), b) _ _ _ _ _ _ (zb_n _) (by simp [c_5, m_selfA]) hP hD hS (Nat.le_of_ble_eq_true rfl) (Nat.le_of_ble_eq_true rfl) dX2_drain_23
  · -- on at 5
    have c_5 := zb_t c_5
    refine lv_iload_n hx hb dX2_drain_8 rfl (lv_at hl 1 rfl) ?_
    refine lv_goto (tgt := 16) hx hb dX2_drain_9 (by decide) ?_
    refine va_put (D := D) (ci := 2) (v := .int x) (ty := .int) (C := RX2) (T := TX2) (N := 22) hx hb hts iw_X2 tyX2 tyok_X2 nm_X2 hown hK hP hD hS 0 rfl rfl 5 (by decide) (hts _ kf_X2_76) (fun _ h9 => h9) rfl (by decide +kernel) rfl rfl (Nat.le_of_ble_eq_true rfl) dX2_drain_16 (fun H locs hP hD hS => ?_)
    have hP : va_P D vwCl (wM g q (va_up a 0 (upd (a 0) 1 x)) b) H := hP
    have hD : va_D A (wM g q (va_up a 0 (upd (a 0) 1 x)) b) := hD
    refine lv_iload_n hx hb dX2_drain_19 rfl (lv_at hl 1 rfl) ?_
    refine zk_pi (rest := []) C0 hP hD hS (c_M_isParts l D (tyG g) x) kk_X2_69 hl.1 rfl rfl (Nat.le_of_ble_eq_true rfl) ⟨(Nat.le_of_ble_eq_true rfl), (Nat.le_of_ble_eq_true rfl)⟩ rfl rfl ⟨(Nat.le_of_ble_eq_true rfl), (Nat.le_of_ble_eq_true rfl)⟩ dX2_drain_20 (fun r_20 H locs hw_20 hP hS => ?_)
    obtain rfl := hw_20
    exact hret (zb (m_parts x)) (va_up a 0 (upd (a 0) 1 x), b) _ _ _ _ _ _ (zb_n _) (by simp [c_5, m_selfA]) hP hD hS (Nat.le_of_ble_eq_true rfl) (Nat.le_of_ble_eq_true rfl) dX2_drain_23
def rm_M_back : Room := { frames := 1, cells := 0, slots := 0, locals := 20 }
set_option maxHeartbeats 4000000 in
set_option maxRecDepth 100000 in
theorem c_M_back (l : Launch) (D : va_G) (g : Nat → ClassId) (q : Nat → Nat) (a : Nat → Nat → Int32) (b : Nat → Nat → Int64) (x : Int32) : zc_i l D (tyG g) yX2_back cX2_back 2 (some .boolean) rm_M_back [.ref (q 0), .int x] (wM g q a b) (fun (r : Int32) (u : zT) => r = zb (m_parts x) ∧ u = if m_parts x = true then (va_up a 0 (upd (a 0) 2 x), b) else (a, b)) (fun u => wM g q u.1 u.2) 0 0 := by
  refine zi_of (by decide) (Nat.le_of_ble_eq_true rfl) rfl ?_
  intro p e s m args below meth cd_ A Q ls C0 hnm hP hD hS hl hret
  obtain ⟨hx, hb, hr, hml, hlocks, hown, hts, hK, hA, hN⟩ := id C0
  have hl : lv_has ls 2 [(0, .ref (q 0)), (1, .int x)] := hl
  refine lv_aload_n hx hb dX2_back_0 rfl (lv_at hl 0 rfl) ?_
  refine lv_iload_n hx hb dX2_back_1 rfl (lv_at hl 1 rfl) ?_
  refine zk_pi (rest := [.ref (q 0)]) C0 hP hD hS (c_M_isParts l D (tyG g) x) kk_X2_69 hl.1 rfl rfl (Nat.le_of_ble_eq_true rfl) ⟨(Nat.le_of_ble_eq_true rfl), (Nat.le_of_ble_eq_true rfl)⟩ rfl rfl ⟨(Nat.le_of_ble_eq_true rfl), (Nat.le_of_ble_eq_true rfl)⟩ dX2_back_2 (fun r_2 H locs hw_2 hP hS => ?_)
  obtain rfl := hw_2
  refine lv_if_eq (tgt := 12) hx hb dX2_back_5 (by decide) (fun c_5 => ?_) (fun c_5 => ?_)
  · -- jump at 5
    have c_5 := zb_f c_5
    refine lv_aload_n hx hb dX2_back_12 rfl (lv_at hl 0 rfl) ?_
    refine va_get (D := D) (ci := 2) (v := .int (a 0 2)) (C := RX2) (T := TX2) (N := 22) hx hb hts iw_X2 hown hK hP 0 rfl rfl 6 (by decide) (hts _ kf_X2_79) (fun _ h9 => h9) rfl dX2_back_13 ?_
    refine va_put (D := D) (ci := 2) (v := .int (a 0 2)) (ty := .int) (C := RX2) (T := TX2) (N := 22) hx hb hts iw_X2 tyX2 tyok_X2 nm_X2 hown hK hP hD hS 0 rfl rfl 6 (by decide) (hts _ kf_X2_79) (fun _ h9 => h9) rfl (by decide +kernel) rfl rfl (Nat.le_of_ble_eq_true rfl) dX2_back_16 (fun H locs hP hD hS => ?_)
    have hP : va_P D vwCl (wM g q (va_up a 0 (upd (a 0) 2 (a 0 2))) b) H := hP
    have hD : va_D A (wM g q (va_up a 0 (upd (a 0) 2 (a 0 2))) b) := hD
    refine lv_iload_n hx hb dX2_back_19 rfl (lv_at hl 1 rfl) ?_
    refine zk_pi (rest := []) C0 hP hD hS (c_M_isParts l D (tyG g) x) kk_X2_69 hl.1 rfl rfl (Nat.le_of_ble_eq_true rfl) ⟨(Nat.le_of_ble_eq_true rfl), (Nat.le_of_ble_eq_true rfl)⟩ rfl rfl ⟨(Nat.le_of_ble_eq_true rfl), (Nat.le_of_ble_eq_true rfl)⟩ dX2_back_20 (fun r_20 H locs hw_20 hP hS => ?_)
    obtain rfl := hw_20
    exact hret (zb (m_parts x)) (va_up a 0 (upd (a 0) 2 (a 0 2)), b) _ _ _ _ _ _ (zb_n _) (by simp [c_5, m_selfA]) hP hD hS (Nat.le_of_ble_eq_true rfl) (Nat.le_of_ble_eq_true rfl) dX2_back_23
  · -- on at 5
    have c_5 := zb_t c_5
    refine lv_iload_n hx hb dX2_back_8 rfl (lv_at hl 1 rfl) ?_
    refine lv_goto (tgt := 16) hx hb dX2_back_9 (by decide) ?_
    refine va_put (D := D) (ci := 2) (v := .int x) (ty := .int) (C := RX2) (T := TX2) (N := 22) hx hb hts iw_X2 tyX2 tyok_X2 nm_X2 hown hK hP hD hS 0 rfl rfl 6 (by decide) (hts _ kf_X2_79) (fun _ h9 => h9) rfl (by decide +kernel) rfl rfl (Nat.le_of_ble_eq_true rfl) dX2_back_16 (fun H locs hP hD hS => ?_)
    have hP : va_P D vwCl (wM g q (va_up a 0 (upd (a 0) 2 x)) b) H := hP
    have hD : va_D A (wM g q (va_up a 0 (upd (a 0) 2 x)) b) := hD
    refine lv_iload_n hx hb dX2_back_19 rfl (lv_at hl 1 rfl) ?_
    refine zk_pi (rest := []) C0 hP hD hS (c_M_isParts l D (tyG g) x) kk_X2_69 hl.1 rfl rfl (Nat.le_of_ble_eq_true rfl) ⟨(Nat.le_of_ble_eq_true rfl), (Nat.le_of_ble_eq_true rfl)⟩ rfl rfl ⟨(Nat.le_of_ble_eq_true rfl), (Nat.le_of_ble_eq_true rfl)⟩ dX2_back_20 (fun r_20 H locs hw_20 hP hS => ?_)
    obtain rfl := hw_20
    exact hret (zb (m_parts x)) (va_up a 0 (upd (a 0) 2 x), b) _ _ _ _ _ _ (zb_n _) (by simp [c_5, m_selfA]) hP hD hS (Nat.le_of_ble_eq_true rfl) (Nat.le_of_ble_eq_true rfl) dX2_back_23
def rm_M_tank : Room := { frames := 1, cells := 0, slots := 0, locals := 25 }
set_option maxHeartbeats 4000000 in
set_option maxRecDepth 100000 in
theorem c_M_tank (l : Launch) (D : va_G) (g : Nat → ClassId) (q : Nat → Nat) (a : Nat → Nat → Int32) (b : Nat → Nat → Int64) (x : Int64) : zc_i l D (tyG g) yX2_tank cX2_tank 3 (some .boolean) rm_M_tank [.ref (q 0), .long x] (wM g q a b) (fun (r : Int32) (u : zT) => r = zb (m_within x 0 1000000000) ∧ u = if m_within x 0 1000000000 = true then (a, va_up b 0 (vp_updL (b 0) 0 x)) else (a, b)) (fun u => wM g q u.1 u.2) 0 0 := by
  refine zi_of (by decide) (Nat.le_of_ble_eq_true rfl) rfl ?_
  intro p e s m args below meth cd_ A Q ls C0 hnm hP hD hS hl hret
  obtain ⟨hx, hb, hr, hml, hlocks, hown, hts, hK, hA, hN⟩ := id C0
  have hl : lv_has ls 3 [(0, .ref (q 0)), (1, .long x)] := hl
  refine lv_aload_n hx hb dX2_tank_0 rfl (lv_at hl 0 rfl) ?_
  refine lv_lload_n hx hb dX2_tank_1 rfl (lv_at hl 1 rfl) ?_
  refine lv_lconst (v := 0) hx hb dX2_tank_2 (by decide) ?_
  refine lv_ldc2 (v := 1000000000) hx hb hown (hts _ kc_X2_82) dX2_tank_3 ?_
  refine zk_pi (rest := [.ref (q 0)]) C0 hP hD hS (c_M_isIn l D (tyG g) x (0 : Int64) (1000000000 : Int64)) kk_X2_63 hl.1 rfl rfl (Nat.le_of_ble_eq_true rfl) ⟨(Nat.le_of_ble_eq_true rfl), (Nat.le_of_ble_eq_true rfl)⟩ rfl rfl ⟨(Nat.le_of_ble_eq_true rfl), (Nat.le_of_ble_eq_true rfl)⟩ dX2_tank_6 (fun r_6 H locs hw_6 hP hS => ?_)
  obtain rfl := hw_6
  refine lv_if_eq (tgt := 16) hx hb dX2_tank_9 (by decide) (fun c_9 => ?_) (fun c_9 => ?_)
  · -- jump at 9
    have c_9 := zb_f c_9
    refine lv_aload_n hx hb dX2_tank_16 rfl (lv_at hl 0 rfl) ?_
    refine va_get (D := D) (ci := 2) (v := .long (b 0 0)) (C := RX2) (T := TX2) (N := 22) hx hb hts iw_X2 hown hK hP 0 rfl rfl 7 (by decide) (hts _ kf_X2_84) (fun _ h9 => h9) rfl dX2_tank_17 ?_
    refine va_put (D := D) (ci := 2) (v := .long (b 0 0)) (ty := .long) (C := RX2) (T := TX2) (N := 22) hx hb hts iw_X2 tyX2 tyok_X2 nm_X2 hown hK hP hD hS 0 rfl rfl 7 (by decide) (hts _ kf_X2_84) (fun _ h9 => h9) rfl (by decide +kernel) rfl rfl (Nat.le_of_ble_eq_true rfl) dX2_tank_20 (fun H locs hP hD hS => ?_)
    have hP : va_P D vwCl (wM g q a (va_up b 0 (vp_updL (b 0) 0 (b 0 0)))) H := hP
    have hD : va_D A (wM g q a (va_up b 0 (vp_updL (b 0) 0 (b 0 0)))) := hD
    refine lv_lload_n hx hb dX2_tank_23 rfl (lv_at hl 1 rfl) ?_
    refine lv_lconst (v := 0) hx hb dX2_tank_24 (by decide) ?_
    refine lv_ldc2 (v := 1000000000) hx hb hown (hts _ kc_X2_82) dX2_tank_25 ?_
    refine zk_pi (rest := []) C0 hP hD hS (c_M_isIn l D (tyG g) x (0 : Int64) (1000000000 : Int64)) kk_X2_63 hl.1 rfl rfl (Nat.le_of_ble_eq_true rfl) ⟨(Nat.le_of_ble_eq_true rfl), (Nat.le_of_ble_eq_true rfl)⟩ rfl rfl ⟨(Nat.le_of_ble_eq_true rfl), (Nat.le_of_ble_eq_true rfl)⟩ dX2_tank_28 (fun r_28 H locs hw_28 hP hS => ?_)
    obtain rfl := hw_28
    exact hret (zb (m_within x (0 : Int64) (1000000000 : Int64))) (a, va_up b 0 (vp_updL (b 0) 0 (b 0 0))) _ _ _ _ _ _ (zb_n _) (by simp [c_9, m_selfB]) hP hD hS (Nat.le_of_ble_eq_true rfl) (Nat.le_of_ble_eq_true rfl) dX2_tank_31
  · -- on at 9
    have c_9 := zb_t c_9
    refine lv_lload_n hx hb dX2_tank_12 rfl (lv_at hl 1 rfl) ?_
    refine lv_goto (tgt := 20) hx hb dX2_tank_13 (by decide) ?_
    refine va_put (D := D) (ci := 2) (v := .long x) (ty := .long) (C := RX2) (T := TX2) (N := 22) hx hb hts iw_X2 tyX2 tyok_X2 nm_X2 hown hK hP hD hS 0 rfl rfl 7 (by decide) (hts _ kf_X2_84) (fun _ h9 => h9) rfl (by decide +kernel) rfl rfl (Nat.le_of_ble_eq_true rfl) dX2_tank_20 (fun H locs hP hD hS => ?_)
    have hP : va_P D vwCl (wM g q a (va_up b 0 (vp_updL (b 0) 0 x))) H := hP
    have hD : va_D A (wM g q a (va_up b 0 (vp_updL (b 0) 0 x))) := hD
    refine lv_lload_n hx hb dX2_tank_23 rfl (lv_at hl 1 rfl) ?_
    refine lv_lconst (v := 0) hx hb dX2_tank_24 (by decide) ?_
    refine lv_ldc2 (v := 1000000000) hx hb hown (hts _ kc_X2_82) dX2_tank_25 ?_
    refine zk_pi (rest := []) C0 hP hD hS (c_M_isIn l D (tyG g) x (0 : Int64) (1000000000 : Int64)) kk_X2_63 hl.1 rfl rfl (Nat.le_of_ble_eq_true rfl) ⟨(Nat.le_of_ble_eq_true rfl), (Nat.le_of_ble_eq_true rfl)⟩ rfl rfl ⟨(Nat.le_of_ble_eq_true rfl), (Nat.le_of_ble_eq_true rfl)⟩ dX2_tank_28 (fun r_28 H locs hw_28 hP hS => ?_)
    obtain rfl := hw_28
    exact hret (zb (m_within x (0 : Int64) (1000000000 : Int64))) (a, va_up b 0 (vp_updL (b 0) 0 x)) _ _ _ _ _ _ (zb_n _) (by simp [c_9, m_selfB]) hP hD hS (Nat.le_of_ble_eq_true rfl) (Nat.le_of_ble_eq_true rfl) dX2_tank_31
def rm_M_stage : Room := { frames := 1, cells := 0, slots := 0, locals := 25 }
set_option maxHeartbeats 4000000 in
set_option maxRecDepth 100000 in
theorem c_M_stage (l : Launch) (D : va_G) (g : Nat → ClassId) (q : Nat → Nat) (a : Nat → Nat → Int32) (b : Nat → Nat → Int64) (sc : Nat) (hsc : a 0 3 = nI sc) (hsc4 : sc ≤ 4) (x y : Int32) : zc_i l D (tyG g) yX2_stage cX2_stage 3 (some .int) rm_M_stage [.ref (q 0), .int x, .int y] (wM g q a b) (fun (r : Int32) (u : zT) => r = (if (decide (sc < 4) && m_within x.toInt64 0 1000000 && m_parts y) = true then nI sc else -1) ∧ u = if (decide (sc < 4) && m_within x.toInt64 0 1000000 && m_parts y) = true then (va_up (va_up (va_up a 0 (upd (a 0) 3 (nI (sc + 1)))) 4 (upd (a 4) sc x)) 5 (upd (a 5) sc y), b) else (a, b)) (fun u => wM g q u.1 u.2) 0 0 := by
  refine zi_of (by decide) (Nat.le_of_ble_eq_true rfl) rfl ?_
  intro p e s m args below meth cd_ A Q ls C0 hnm hP hD hS hl hret
  obtain ⟨hx, hb, hr, hml, hlocks, hown, hts, hK, hA, hN⟩ := id C0
  have hl : lv_has ls 3 [(0, .ref (q 0)), (1, .int x), (2, .int y)] := hl
  refine lv_aload_n hx hb dX2_stage_0 rfl (lv_at hl 0 rfl) ?_
  refine va_get (D := D) (ci := 2) (v := .int (a 0 3)) (C := RX2) (T := TX2) (N := 22) hx hb hts iw_X2 hown hK hP 0 rfl rfl 8 (by decide) (hts _ kf_X2_87) (fun _ h9 => h9) rfl dX2_stage_1 ?_
  rw [hsc]
  refine lv_iconst (v := 4) hx hb dX2_stage_4 (by decide) ?_
  refine lv_icmp_eq (tgt := 27) hx hb dX2_stage_5 (by decide) (fun c_5 => ?_) (fun c_5 => ?_)
  · -- jump at 5
    have hs4 : ¬ sc < 4 := by have h9 := (nI_eq (a := sc) (b := 4) (by omega) (by decide)).mp c_5; omega
    refine lv_iconst (v := (-1)) hx hb dX2_stage_27 (by decide) ?_
    exact hret (-1) (a, b) _ _ _ _ _ _ (vp_nar_int _) (by simp [hs4]) hP hD hS (Nat.le_of_ble_eq_true rfl) (Nat.le_of_ble_eq_true rfl) dX2_stage_28
  · -- on at 5
    have hs4 : sc < 4 := by rcases Nat.lt_or_ge sc 4 with h | h; exact h; exact absurd (show nI sc = 4 from by rw [show sc = 4 from by omega]; rfl) c_5
    refine lv_iload_n hx hb dX2_stage_8 rfl (lv_at hl 1 rfl) ?_
    refine lv_i2l (v := x.toInt64) hx hb dX2_stage_9 rfl ?_
    refine lv_lconst (v := 0) hx hb dX2_stage_10 (by decide) ?_
    refine lv_ldc2 (v := 1000000) hx hb hown (hts _ kc_X2_67) dX2_stage_11 ?_
    refine zk_pi (rest := []) C0 hP hD hS (c_M_isIn l D (tyG g) x.toInt64 (0 : Int64) (1000000 : Int64)) kk_X2_63 hl.1 rfl rfl (Nat.le_of_ble_eq_true rfl) ⟨(Nat.le_of_ble_eq_true rfl), (Nat.le_of_ble_eq_true rfl)⟩ rfl rfl ⟨(Nat.le_of_ble_eq_true rfl), (Nat.le_of_ble_eq_true rfl)⟩ dX2_stage_14 (fun r_14 H locs hw_14 hP hS => ?_)
    obtain rfl := hw_14
    refine lv_if_eq (tgt := 27) hx hb dX2_stage_17 (by decide) (fun c_17 => ?_) (fun c_17 => ?_)
    · -- jump at 17
      have c_17 := zb_f c_17
      refine lv_iconst (v := (-1)) hx hb dX2_stage_27 (by decide) ?_
      exact hret (-1) (a, b) _ _ _ _ _ _ (vp_nar_int _) (by simp [hs4, c_17]) hP hD hS (Nat.le_of_ble_eq_true rfl) (Nat.le_of_ble_eq_true rfl) dX2_stage_28
    · -- on at 17
      have c_17 := zb_t c_17
      refine lv_iload_n hx hb dX2_stage_20 rfl (lv_at hl 2 rfl) ?_
      refine zk_pi (rest := []) C0 hP hD hS (c_M_isParts l D (tyG g) y) kk_X2_69 hl.1 rfl rfl (Nat.le_of_ble_eq_true rfl) ⟨(Nat.le_of_ble_eq_true rfl), (Nat.le_of_ble_eq_true rfl)⟩ rfl rfl ⟨(Nat.le_of_ble_eq_true rfl), (Nat.le_of_ble_eq_true rfl)⟩ dX2_stage_21 (fun r_21 H locs hw_21 hP hS => ?_)
      obtain rfl := hw_21
      refine lv_if_ne (tgt := 29) hx hb dX2_stage_24 (by decide) (fun c_24 => ?_) (fun c_24 => ?_)
      · -- jump at 24
        have c_24 := zb_t c_24
        refine lv_aload_n hx hb dX2_stage_29 rfl (lv_at hl 0 rfl) ?_
        refine va_get (D := D) (ci := 2) (v := .ref (q 4)) (C := RX2) (T := TX2) (N := 22) hx hb hts iw_X2 hown hK hP 0 rfl rfl 9 (by decide) (hts _ kf_X2_20) (fun _ h9 => h9) rfl dX2_stage_30 ?_
        refine lv_aload_n hx hb dX2_stage_33 rfl (lv_at hl 0 rfl) ?_
        refine va_get (D := D) (ci := 2) (v := .int (a 0 3)) (C := RX2) (T := TX2) (N := 22) hx hb hts iw_X2 hown hK hP 0 rfl rfl 8 (by decide) (hts _ kf_X2_87) (fun _ h9 => h9) rfl dX2_stage_34 ?_
        rw [hsc]
        refine lv_iload_n hx hb dX2_stage_37 rfl (lv_at hl 1 rfl) ?_
        refine za_iast (k := sc) (x := x) (f := (a 4)) hx hb hK hP hD hS 4 0 rfl rfl rfl (by omega) (by decide) dX2_stage_38 (fun H locs hP hD hS => ?_)
        have hP : va_P D vwCl (wM g q (va_up a 4 (upd (a 4) sc x)) b) H := hP
        have hD : va_D A (wM g q (va_up a 4 (upd (a 4) sc x)) b) := hD
        refine lv_aload_n hx hb dX2_stage_39 rfl (lv_at hl 0 rfl) ?_
        refine va_get (D := D) (ci := 2) (v := .ref (q 5)) (C := RX2) (T := TX2) (N := 22) hx hb hts iw_X2 hown hK hP 0 rfl rfl 10 (by decide) (hts _ kf_X2_23) (fun _ h9 => h9) rfl dX2_stage_40 ?_
        refine lv_aload_n hx hb dX2_stage_43 rfl (lv_at hl 0 rfl) ?_
        refine va_get (D := D) (ci := 2) (v := .int (a 0 3)) (C := RX2) (T := TX2) (N := 22) hx hb hts iw_X2 hown hK hP 0 rfl rfl 8 (by decide) (hts _ kf_X2_87) (fun _ h9 => h9) rfl dX2_stage_44 ?_
        rw [hsc]
        refine lv_iload_n hx hb dX2_stage_47 rfl (lv_at hl 2 rfl) ?_
        refine za_iast (k := sc) (x := y) (f := (a 5)) hx hb hK hP hD hS 5 0 rfl rfl rfl (by omega) (by decide) dX2_stage_48 (fun H locs hP hD hS => ?_)
        have hP : va_P D vwCl (wM g q (va_up (va_up a 4 (upd (a 4) sc x)) 5 (upd (a 5) sc y)) b) H := hP
        have hD : va_D A (wM g q (va_up (va_up a 4 (upd (a 4) sc x)) 5 (upd (a 5) sc y)) b) := hD
        refine lv_aload_n hx hb dX2_stage_49 rfl (lv_at hl 0 rfl) ?_
        refine lv_dup hx hb dX2_stage_50 rfl ?_
        refine va_get (D := D) (ci := 2) (v := .int (a 0 3)) (C := RX2) (T := TX2) (N := 22) hx hb hts iw_X2 hown hK hP 0 rfl rfl 8 (by decide) (hts _ kf_X2_87) (fun _ h9 => h9) rfl dX2_stage_51 ?_
        rw [hsc]
        refine lv_iconst (v := 1) hx hb dX2_stage_54 (by decide) ?_
        refine lv_iadd hx hb dX2_stage_55 ?_
        rw [show (nI sc) + 1 = nI (sc + 1) from nI_1 sc]
        refine va_put (D := D) (ci := 2) (v := .int (nI (sc + 1))) (ty := .int) (C := RX2) (T := TX2) (N := 22) hx hb hts iw_X2 tyX2 tyok_X2 nm_X2 hown hK hP hD hS 0 rfl rfl 8 (by decide) (hts _ kf_X2_87) (fun _ h9 => h9) rfl (by decide +kernel) rfl rfl (Nat.le_of_ble_eq_true rfl) dX2_stage_56 (fun H locs hP hD hS => ?_)
        have hP : va_P D vwCl (wM g q (va_up (va_up (va_up a 0 (upd (a 0) 3 (nI (sc + 1)))) 4 (upd (a 4) sc x)) 5 (upd (a 5) sc y)) b) H := hP
        have hD : va_D A (wM g q (va_up (va_up (va_up a 0 (upd (a 0) 3 (nI (sc + 1)))) 4 (upd (a 4) sc x)) 5 (upd (a 5) sc y)) b) := hD
        refine lv_aload_n hx hb dX2_stage_59 rfl (lv_at hl 0 rfl) ?_
        refine va_get (D := D) (ci := 2) (v := .int (nI (sc + 1))) (C := RX2) (T := TX2) (N := 22) hx hb hts iw_X2 hown hK hP 0 rfl rfl 8 (by decide) (hts _ kf_X2_87) (fun _ h9 => h9) rfl dX2_stage_60 ?_
        refine lv_iconst (v := 1) hx hb dX2_stage_63 (by decide) ?_
        refine lv_isub hx hb dX2_stage_64 ?_
        rw [show (nI (sc + 1)) - 1 = nI sc from nI_pred sc]
        exact hret (nI sc) (va_up (va_up (va_up a 0 (upd (a 0) 3 (nI (sc + 1)))) 4 (upd (a 4) sc x)) 5 (upd (a 5) sc y), b) _ _ _ _ _ _ (vp_nar_int _) (by simp [hs4, c_17, c_24]) hP hD hS (Nat.le_of_ble_eq_true rfl) (Nat.le_of_ble_eq_true rfl) dX2_stage_65
      · -- on at 24
        have c_24 := zb_f c_24
        refine lv_iconst (v := (-1)) hx hb dX2_stage_27 (by decide) ?_
        exact hret (-1) (a, b) _ _ _ _ _ _ (vp_nar_int _) (by simp [hs4, c_17, c_24]) hP hD hS (Nat.le_of_ble_eq_true rfl) (Nat.le_of_ble_eq_true rfl) dX2_stage_28
def rm_M_rain : Room := { frames := 1, cells := 0, slots := 0, locals := 25 }
set_option maxHeartbeats 4000000 in
set_option maxRecDepth 100000 in
theorem c_M_rain (l : Launch) (D : va_G) (g : Nat → ClassId) (q : Nat → Nat) (a : Nat → Nat → Int32) (b : Nat → Nat → Int64) (d : Nat) (hd : a 0 4 = nI d) (hd4 : d ≤ 400) (x y : Int32) : zc_i l D (tyG g) yX2_rain cX2_rain 3 (some .boolean) rm_M_rain [.ref (q 0), .int x, .int y] (wM g q a b) (fun (r : Int32) (u : zT) => r = zb (m_within x.toInt64 (nI d).toInt64 399 && m_within y.toInt64 0 1000000) ∧ u = if (m_within x.toInt64 (nI d).toInt64 399 && m_within y.toInt64 0 1000000) = true then (va_up a 6 (upd (a 6) x.toNatClampNeg y), b) else (a, b)) (fun u => wM g q u.1 u.2) 0 0 := by
  refine zi_of (by decide) (Nat.le_of_ble_eq_true rfl) rfl ?_
  intro p e s m args below meth cd_ A Q ls C0 hnm hP hD hS hl hret
  obtain ⟨hx, hb, hr, hml, hlocks, hown, hts, hK, hA, hN⟩ := id C0
  have hl : lv_has ls 3 [(0, .ref (q 0)), (1, .int x), (2, .int y)] := hl
  refine lv_iload_n hx hb dX2_rain_0 rfl (lv_at hl 1 rfl) ?_
  refine lv_i2l (v := x.toInt64) hx hb dX2_rain_1 rfl ?_
  refine lv_aload_n hx hb dX2_rain_2 rfl (lv_at hl 0 rfl) ?_
  refine va_get (D := D) (ci := 2) (v := .int (a 0 4)) (C := RX2) (T := TX2) (N := 22) hx hb hts iw_X2 hown hK hP 0 rfl rfl 12 (by decide) (hts _ kf_X2_90) (fun _ h9 => h9) rfl dX2_rain_3 ?_
  rw [hd]
  refine lv_i2l (v := (nI d).toInt64) hx hb dX2_rain_6 rfl ?_
  refine lv_ldc2 (v := 399) hx hb hown (hts _ kc_X2_93) dX2_rain_7 ?_
  refine zk_pi (rest := []) C0 hP hD hS (c_M_isIn l D (tyG g) x.toInt64 ((nI d).toInt64) (399 : Int64)) kk_X2_63 hl.1 rfl rfl (Nat.le_of_ble_eq_true rfl) ⟨(Nat.le_of_ble_eq_true rfl), (Nat.le_of_ble_eq_true rfl)⟩ rfl rfl ⟨(Nat.le_of_ble_eq_true rfl), (Nat.le_of_ble_eq_true rfl)⟩ dX2_rain_10 (fun r_10 H locs hw_10 hP hS => ?_)
  obtain rfl := hw_10
  refine lv_if_eq (tgt := 28) hx hb dX2_rain_13 (by decide) (fun c_13 => ?_) (fun c_13 => ?_)
  · -- jump at 13
    have c_13 := zb_f c_13
    refine lv_iconst (v := 0) hx hb dX2_rain_28 (by decide) ?_
    exact hret 0 (a, b) _ _ _ _ _ _ rfl (by simp [zb, c_13]) hP hD hS (Nat.le_of_ble_eq_true rfl) (Nat.le_of_ble_eq_true rfl) dX2_rain_29
  · -- on at 13
    have c_13 := zb_t c_13
    obtain ⟨k, hk1, hk2, rfl⟩ := m_rain_k hd4 c_13
    have hcl : (nI k).toNatClampNeg = k := nI_clamp (by omega)
    refine lv_iload_n hx hb dX2_rain_16 rfl (lv_at hl 2 rfl) ?_
    refine lv_i2l (v := y.toInt64) hx hb dX2_rain_17 rfl ?_
    refine lv_lconst (v := 0) hx hb dX2_rain_18 (by decide) ?_
    refine lv_ldc2 (v := 1000000) hx hb hown (hts _ kc_X2_67) dX2_rain_19 ?_
    refine zk_pi (rest := []) C0 hP hD hS (c_M_isIn l D (tyG g) y.toInt64 (0 : Int64) (1000000 : Int64)) kk_X2_63 hl.1 rfl rfl (Nat.le_of_ble_eq_true rfl) ⟨(Nat.le_of_ble_eq_true rfl), (Nat.le_of_ble_eq_true rfl)⟩ rfl rfl ⟨(Nat.le_of_ble_eq_true rfl), (Nat.le_of_ble_eq_true rfl)⟩ dX2_rain_22 (fun r_22 H locs hw_22 hP hS => ?_)
    obtain rfl := hw_22
    refine lv_if_ne (tgt := 30) hx hb dX2_rain_25 (by decide) (fun c_25 => ?_) (fun c_25 => ?_)
    · -- jump at 25
      have c_25 := zb_t c_25
      refine lv_aload_n hx hb dX2_rain_30 rfl (lv_at hl 0 rfl) ?_
      refine va_get (D := D) (ci := 2) (v := .ref (q 6)) (C := RX2) (T := TX2) (N := 22) hx hb hts iw_X2 hown hK hP 0 rfl rfl 11 (by decide) (hts _ kf_X2_26) (fun _ h9 => h9) rfl dX2_rain_31 ?_
      refine lv_iload_n hx hb dX2_rain_34 rfl (lv_at hl 1 rfl) ?_
      refine lv_iload_n hx hb dX2_rain_35 rfl (lv_at hl 2 rfl) ?_
      refine za_iast (k := k) (x := y) (f := (a 6)) hx hb hK hP hD hS 6 0 rfl rfl rfl (by omega) (by decide) dX2_rain_36 (fun H locs hP hD hS => ?_)
      have hP : va_P D vwCl (wM g q (va_up a 6 (upd (a 6) k y)) b) H := hP
      have hD : va_D A (wM g q (va_up a 6 (upd (a 6) k y)) b) := hD
      refine lv_iconst (v := 1) hx hb dX2_rain_37 (by decide) ?_
      exact hret 1 (va_up a 6 (upd (a 6) k y), b) _ _ _ _ _ _ rfl (by simp [zb, c_13, c_25, hcl]) hP hD hS (Nat.le_of_ble_eq_true rfl) (Nat.le_of_ble_eq_true rfl) dX2_rain_38
    · -- on at 25
      have c_25 := zb_f c_25
      refine lv_iconst (v := 0) hx hb dX2_rain_28 (by decide) ?_
      exact hret 0 (a, b) _ _ _ _ _ _ rfl (by simp [zb, c_13, c_25, hcl]) hP hD hS (Nat.le_of_ble_eq_true rfl) (Nat.le_of_ble_eq_true rfl) dX2_rain_29
def rm_M_storm : Room := { frames := 1, cells := 0, slots := 0, locals := 25 }
set_option maxHeartbeats 4000000 in
set_option maxRecDepth 100000 in
theorem c_M_storm (l : Launch) (D : va_G) (g : Nat → ClassId) (q : Nat → Nat) (a : Nat → Nat → Int32) (b : Nat → Nat → Int64) (d : Nat) (hd : a 0 4 = nI d) (hd4 : d ≤ 400) (x : Int64) (y : Int32) : zc_i l D (tyG g) yX2_storm cX2_storm 7 (some .boolean) rm_M_storm [.ref (q 0), .long x, .int y] (wM g q a b) (fun (r : Int32) (u : zT) => r = zb (m_days (nI d) y) ∧ u = if m_days (nI d) y = true then (va_up a 6 (m_st (a 6) x d y.toNatClampNeg).2, b) else (a, b)) (fun u => wM g q u.1 u.2) 0 0 := by
  refine zi_of (by decide) (Nat.le_of_ble_eq_true rfl) rfl ?_
  intro p e s m args below meth cd_ A Q ls C0 hnm hP hD hS hl hret
  obtain ⟨hx, hb, hr, hml, hlocks, hown, hts, hK, hA, hN⟩ := id C0
  have hl : lv_has ls 7 [(0, .ref (q 0)), (1, .long x), (3, .int y)] := hl
  refine lv_iload_n hx hb dX2_storm_0 rfl (lv_at hl 2 rfl) ?_
  refine lv_i2l (v := y.toInt64) hx hb dX2_storm_1 rfl ?_
  refine lv_lconst (v := 1) hx hb dX2_storm_2 (by decide) ?_
  refine lv_ldc2 (v := 100) hx hb hown (hts _ kc_X2_95) dX2_storm_3 ?_
  refine zk_pi (rest := []) C0 hP hD hS (c_M_isIn l D (tyG g) y.toInt64 (1 : Int64) (100 : Int64)) kk_X2_63 hl.1 rfl rfl (Nat.le_of_ble_eq_true rfl) ⟨(Nat.le_of_ble_eq_true rfl), (Nat.le_of_ble_eq_true rfl)⟩ rfl rfl ⟨(Nat.le_of_ble_eq_true rfl), (Nat.le_of_ble_eq_true rfl)⟩ dX2_storm_6 (fun r_6 H locs hw_6 hP hS => ?_)
  obtain rfl := hw_6
  refine lv_if_eq (tgt := 24) hx hb dX2_storm_9 (by decide) (fun c_9 => ?_) (fun c_9 => ?_)
  · -- jump at 9
    have c_9 := zb_f c_9
    have hdy : m_days (nI d) y = false := by simp [m_days, c_9]
    refine lv_iconst (v := 0) hx hb dX2_storm_24 (by decide) ?_
    exact hret 0 (a, b) _ _ _ _ _ _ rfl (by simp [zb, hdy]) hP hD hS (Nat.le_of_ble_eq_true rfl) (Nat.le_of_ble_eq_true rfl) dX2_storm_25
  · -- on at 9
    have c_9 := zb_t c_9
    refine lv_aload_n hx hb dX2_storm_12 rfl (lv_at hl 0 rfl) ?_
    refine va_get (D := D) (ci := 2) (v := .int (a 0 4)) (C := RX2) (T := TX2) (N := 22) hx hb hts iw_X2 hown hK hP 0 rfl rfl 12 (by decide) (hts _ kf_X2_90) (fun _ h9 => h9) rfl dX2_storm_13 ?_
    rw [hd]
    refine lv_iload_n hx hb dX2_storm_16 rfl (lv_at hl 2 rfl) ?_
    refine lv_iadd hx hb dX2_storm_17 ?_
    refine lv_sipush (v := 400) hx hb dX2_storm_18 (by decide) ?_
    refine lv_icmp_le (tgt := 26) hx hb dX2_storm_21 (by decide) (fun c_21 => ?_) (fun c_21 => ?_)
    · -- jump at 21
      have hdy : m_days (nI d) y = true := by simp [m_days, c_9, c_21]
      obtain ⟨k, hk1, hk2, hk3, rfl⟩ := m_days_k hd4 hdy
      have hcl : (nI k).toNatClampNeg = k := nI_clamp (by omega)
      refine lv_lload_n hx hb dX2_storm_26 rfl (lv_at hl 1 rfl) ?_
      refine lv_lstore (lv' := [(4, .long x), (0, .ref (q 0)), (1, .long x), (3, .int (nI k))]) hx hb dX2_storm_27 hl (by decide) rfl (fun ls hl => ?_)
      refine lv_aload_n hx hb dX2_storm_29 rfl (lv_at hl 1 rfl) ?_
      refine va_get (D := D) (ci := 2) (v := .int (a 0 4)) (C := RX2) (T := TX2) (N := 22) hx hb hts iw_X2 hown hK hP 0 rfl rfl 12 (by decide) (hts _ kf_X2_90) (fun _ h9 => h9) rfl dX2_storm_30 ?_
      rw [hd]
      refine lv_istore (lv' := [(6, .int (nI d)), (4, .long x), (0, .ref (q 0)), (1, .long x), (3, .int (nI k))]) hx hb dX2_storm_33 hl (by decide) rfl (fun ls hl => ?_)
      have lp_35 : ∀ (t_35 i : Nat) , i + t_35 = k → ∀ (H : Heap) (locs : List Loc) (ls : Array Slot), va_P D vwCl (wM g q (va_up a 6 ((m_st (a 6) x d i).2)) b) H → va_D A (wM g q (va_up a 6 ((m_st (a 6) x d i).2)) b) → va_S A s.heap H locs → lv_has ls 7 [(6, .int (nI (d + i))), (4, .long ((m_st (a 6) x d i).1)), (0, .ref (q 0)), (3, .int (nI k))] → W p l e rm_M_storm s m args below meth cd_ H locs 0 0 Q (F0 m 35 ls []) := by
        intro t_35
        induction t_35 with
        | zero =>
          intro i hi_35 H locs ls hP hD hS hl
          obtain rfl : k = i := by omega
          refine lv_iload hx hb dX2_storm_35 (lv_at hl 0 rfl) ?_
          refine lv_aload_n hx hb dX2_storm_37 rfl (lv_at hl 2 rfl) ?_
          refine va_get (D := D) (ci := 2) (v := .int (a 0 4)) (C := RX2) (T := TX2) (N := 22) hx hb hts iw_X2 hown hK hP 0 rfl rfl 12 (by decide) (hts _ kf_X2_90) (fun _ h9 => h9) rfl dX2_storm_38 ?_
          rw [hd]
          refine lv_iload_n hx hb dX2_storm_41 rfl (lv_at hl 3 rfl) ?_
          refine lv_iadd hx hb dX2_storm_42 ?_
          rw [show (nI d) + (nI k) = nI (d + k) from nI_add d k]
          refine lv_icmp_ge (tgt := 77) hx hb dX2_storm_43 (by decide) (fun _ => ?_) (fun c_43 => absurd (nI_le (Nat.le_refl _) (by omega)) c_43)
          refine lv_iconst (v := 1) hx hb dX2_storm_77 (by decide) ?_
          exact hret 1 (va_up a 6 ((m_st (a 6) x d k).2), b) _ _ _ _ _ _ rfl (by simp [zb, hdy, hcl]) hP hD hS (Nat.le_of_ble_eq_true rfl) (Nat.le_of_ble_eq_true rfl) dX2_storm_78
        | succ t_35 ih_35 =>
          intro i hi_35 H locs ls hP hD hS hl
          refine lv_iload hx hb dX2_storm_35 (lv_at hl 0 rfl) ?_
          refine lv_aload_n hx hb dX2_storm_37 rfl (lv_at hl 2 rfl) ?_
          refine va_get (D := D) (ci := 2) (v := .int (a 0 4)) (C := RX2) (T := TX2) (N := 22) hx hb hts iw_X2 hown hK hP 0 rfl rfl 12 (by decide) (hts _ kf_X2_90) (fun _ h9 => h9) rfl dX2_storm_38 ?_
          rw [hd]
          refine lv_iload_n hx hb dX2_storm_41 rfl (lv_at hl 3 rfl) ?_
          refine lv_iadd hx hb dX2_storm_42 ?_
          rw [show (nI d) + (nI k) = nI (d + k) from nI_add d k]
          refine lv_icmp_ge (tgt := 77) hx hb dX2_storm_43 (by decide) (fun c_43 => absurd c_43 (nI_ge (by omega) (by omega))) (fun _ => ?_)
          refine lv_lload hx hb dX2_storm_46 (lv_at hl 1 rfl) ?_
          refine lv_ldc2 (v := 6364136223846793005) hx hb hown (hts _ kc_X2_97) dX2_storm_48 ?_
          refine lv_lmul hx hb dX2_storm_51 ?_
          refine lv_ldc2 (v := 1442695040888963407) hx hb hown (hts _ kc_X2_99) dX2_storm_52 ?_
          refine lv_ladd hx hb dX2_storm_55 ?_
          refine lv_lstore (lv' := [(4, .long ((((m_st (a 6) x d i).1) * 6364136223846793005) + 1442695040888963407)), (6, .int (nI (d + i))), (0, .ref (q 0)), (3, .int (nI k))]) hx hb dX2_storm_56 hl (by decide) rfl (fun ls hl => ?_)
          refine lv_aload_n hx hb dX2_storm_58 rfl (lv_at hl 2 rfl) ?_
          refine va_get (D := D) (ci := 2) (v := .ref (q 6)) (C := RX2) (T := TX2) (N := 22) hx hb hts iw_X2 hown hK hP 0 rfl rfl 11 (by decide) (hts _ kf_X2_26) (fun _ h9 => h9) rfl dX2_storm_59 ?_
          refine lv_iload hx hb dX2_storm_62 (lv_at hl 1 rfl) ?_
          refine lv_lload hx hb dX2_storm_64 (lv_at hl 0 rfl) ?_
          refine lv_bipush (v := 54) hx hb dX2_storm_66 (by decide) ?_
          refine lv_lushr (v := (((((m_st (a 6) x d i).1) * 6364136223846793005) + 1442695040888963407).toUInt64 >>> ((54 : Int32).toInt64.toUInt64 &&& Int64.toUInt64 63)).toInt64) hx hb dX2_storm_68 rfl ?_
          refine lv_l2i (v := ((((((m_st (a 6) x d i).1) * 6364136223846793005) + 1442695040888963407).toUInt64 >>> ((54 : Int32).toInt64.toUInt64 &&& Int64.toUInt64 63)).toInt64).toInt32) hx hb dX2_storm_69 rfl ?_
          refine za_iast (k := (d + i)) (x := ((((((m_st (a 6) x d i).1) * 6364136223846793005) + 1442695040888963407).toUInt64 >>> ((54 : Int32).toInt64.toUInt64 &&& Int64.toUInt64 63)).toInt64).toInt32) (f := ((m_st (a 6) x d i).2)) hx hb hK hP hD hS 6 0 rfl rfl rfl (by omega) (by decide) dX2_storm_70 (fun H locs hP hD hS => ?_)
          have hP : va_P D vwCl (wM g q (va_up a 6 (upd ((m_st (a 6) x d i).2) (d + i) (((((((m_st (a 6) x d i).1) * 6364136223846793005) + 1442695040888963407).toUInt64 >>> ((54 : Int32).toInt64.toUInt64 &&& Int64.toUInt64 63)).toInt64).toInt32))) b) H := hP
          have hD : va_D A (wM g q (va_up a 6 (upd ((m_st (a 6) x d i).2) (d + i) (((((((m_st (a 6) x d i).1) * 6364136223846793005) + 1442695040888963407).toUInt64 >>> ((54 : Int32).toInt64.toUInt64 &&& Int64.toUInt64 63)).toInt64).toInt32))) b) := hD
          refine lv_iinc (v := nI ((d + i) + 1)) (lv' := [(6, .int (nI ((d + i) + 1))), (4, .long ((((m_st (a 6) x d i).1) * 6364136223846793005) + 1442695040888963407)), (0, .ref (q 0)), (3, .int (nI k))]) hx hb dX2_storm_71 hl (k := 1) rfl (nI_1 (d + i)) (by decide) rfl (fun ls hl => ?_)
          refine lv_goto (tgt := 35) hx hb dX2_storm_74 (by decide) ?_
          have hP : va_P D vwCl (wM g q (va_up a 6 ((m_st (a 6) x d (i + 1)).2)) b) _ := hP
          have hD : va_D A (wM g q (va_up a 6 ((m_st (a 6) x d (i + 1)).2)) b) := hD
          have hl : lv_has ls 7 [(6, .int (nI (d + (i + 1)))), (4, .long ((m_st (a 6) x d (i + 1)).1)), (0, .ref (q 0)), (3, .int (nI k))] := lv_sub hl [0, 1, 2, 3] rfl
          exact ih_35 (i + 1)  (by omega)  _ _ _ hP hD hS hl
      exact lp_35 (k - 0) 0  (by omega)  _ _ _ hP hD hS (lv_sub hl [0, 1, 2, 4] rfl)
    · -- on at 21
      have hdy : m_days (nI d) y = false := by simp [m_days, c_21]
      refine lv_iconst (v := 0) hx hb dX2_storm_24 (by decide) ?_
      exact hret 0 (a, b) _ _ _ _ _ _ rfl (by simp [zb, hdy]) hP hD hS (Nat.le_of_ble_eq_true rfl) (Nat.le_of_ble_eq_true rfl) dX2_storm_25
def rm_M_stagesRun : Room := { frames := 1, cells := 0, slots := 0, locals := 22 }
set_option maxHeartbeats 4000000 in
set_option maxRecDepth 100000 in
theorem c_M_stagesRun (l : Launch) (D : va_G) (g : Nat → ClassId) (q : Nat → Nat) (a : Nat → Nat → Int32) (b : Nat → Nat → Int64) (sc : Nat) (hsc : a 0 3 = nI sc) (hsc4 : sc ≤ 4) (d : Nat) (hd : a 0 4 = nI d) (hd4 : d < 400) : zc_v l D (tyG g) yX2_stagesRun cX2_stagesRun 10 none rm_M_stagesRun [.ref (q 0)] (wM g q a b) (fun (u : (Nat → Nat → Int64)) => u = r_stg sc a b d) (fun u => wM g q a u) 0 0 := by
  refine zv_of (by decide) (Nat.le_of_ble_eq_true rfl) rfl ?_
  intro p e s m args below meth cd_ A Q ls C0 hnm hP hD hS hl hret
  obtain ⟨hx, hb, hr, hml, hlocks, hown, hts, hK, hA, hN⟩ := id C0
  have hl : lv_has ls 10 [(0, .ref (q 0))] := hl
  refine lv_aload_n hx hb dX2_stagesRun_0 rfl (lv_at hl 0 rfl) ?_
  refine va_get (D := D) (ci := 2) (v := .int (a 0 3)) (C := RX2) (T := TX2) (N := 22) hx hb hts iw_X2 hown hK hP 0 rfl rfl 8 (by decide) (hts _ kf_X2_87) (fun _ h9 => h9) rfl dX2_stagesRun_1 ?_
  rw [hsc]
  refine lv_if_ne (tgt := 8) hx hb dX2_stagesRun_4 (by decide) (fun c_4 => ?_) (fun c_4 => ?_)
  · -- jump at 4
    have hs0 : ¬ sc = 0 := fun h => c_4 (by rw [h]; rfl)
    refine lv_aload_n hx hb dX2_stagesRun_8 rfl (lv_at hl 0 rfl) ?_
    refine va_get (D := D) (ci := 2) (v := .ref (q 8)) (C := RX2) (T := TX2) (N := 22) hx hb hts iw_X2 hown hK hP 0 rfl rfl 13 (by decide) (hts _ kf_X2_29) (fun _ h9 => h9) rfl dX2_stagesRun_9 ?_
    refine lv_bipush (v := 7) hx hb dX2_stagesRun_12 (by decide) ?_
    refine za_lald (k := 7) (f := (b 8)) (v := b 8 7) hx hb hK hP 8 1 rfl rfl rfl (by decide) (by decide) rfl dX2_stagesRun_14 ?_
    refine lv_lstore_n (lv' := [(1, .long (b 8 7)), (0, .ref (q 0))]) hx hb dX2_stagesRun_15 rfl hl (by decide) rfl (fun ls hl => ?_)
    refine lv_lconst (v := 0) hx hb dX2_stagesRun_16 (by decide) ?_
    refine lv_lstore_n (lv' := [(3, .long 0), (1, .long (b 8 7)), (0, .ref (q 0))]) hx hb dX2_stagesRun_17 rfl hl (by decide) rfl (fun ls hl => ?_)
    refine lv_iconst (v := 0) hx hb dX2_stagesRun_18 (by decide) ?_
    refine lv_istore (lv' := [(5, .int 0), (3, .long 0), (1, .long (b 8 7)), (0, .ref (q 0))]) hx hb dX2_stagesRun_19 hl (by decide) rfl (fun ls hl => ?_)
    have lp_21 : ∀ (t_21 i : Nat) , i + t_21 = sc → ∀ (H : Heap) (locs : List Loc) (ls : Array Slot), va_P D vwCl (wM g q a (va_up b 8 ((r_cl (a 4) (a 5) (b 8) i).1))) H → va_D A (wM g q a (va_up b 8 ((r_cl (a 4) (a 5) (b 8) i).1))) → va_S A s.heap H locs → lv_has ls 10 [(5, .int (nI i)), (1, .long ((r_cl (a 4) (a 5) (b 8) i).2.1)), (3, .long ((r_cl (a 4) (a 5) (b 8) i).2.2)), (0, .ref (q 0))] → W p l e rm_M_stagesRun s m args below meth cd_ H locs 0 0 Q (F0 m 21 ls []) := by
      intro t_21
      induction t_21 with
      | zero =>
        intro i hi_21 H locs ls hP hD hS hl
        obtain rfl : sc = i := by omega
        refine lv_iload hx hb dX2_stagesRun_21 (lv_at hl 0 rfl) ?_
        refine lv_aload_n hx hb dX2_stagesRun_23 rfl (lv_at hl 3 rfl) ?_
        refine va_get (D := D) (ci := 2) (v := .int (a 0 3)) (C := RX2) (T := TX2) (N := 22) hx hb hts iw_X2 hown hK hP 0 rfl rfl 8 (by decide) (hts _ kf_X2_87) (fun _ h9 => h9) rfl dX2_stagesRun_24 ?_
        rw [hsc]
        refine lv_icmp_ge (tgt := 101) hx hb dX2_stagesRun_27 (by decide) (fun _ => ?_) (fun c_27 => absurd (nI_le (Nat.le_refl _) (by omega)) c_27)
        refine lv_aload_n hx hb dX2_stagesRun_101 rfl (lv_at hl 3 rfl) ?_
        refine va_get (D := D) (ci := 2) (v := .ref (q 8)) (C := RX2) (T := TX2) (N := 22) hx hb hts iw_X2 hown hK hP 0 rfl rfl 13 (by decide) (hts _ kf_X2_29) (fun _ h9 => h9) rfl dX2_stagesRun_102 ?_
        refine lv_bipush (v := 7) hx hb dX2_stagesRun_105 (by decide) ?_
        refine lv_lload_n hx hb dX2_stagesRun_107 rfl (lv_at hl 2 rfl) ?_
        refine za_last (k := 7) (x := (r_cl (a 4) (a 5) (b 8) sc).2.2) (f := ((r_cl (a 4) (a 5) (b 8) sc).1)) hx hb hK hP hD hS 8 1 rfl rfl rfl (by decide) (by decide) dX2_stagesRun_108 (fun H locs hP hD hS => ?_)
        have hP : va_P D vwCl (wM g q a (va_up b 8 (vp_updL ((r_cl (a 4) (a 5) (b 8) sc).1) 7 ((r_cl (a 4) (a 5) (b 8) sc).2.2)))) H := hP
        have hD : va_D A (wM g q a (va_up b 8 (vp_updL ((r_cl (a 4) (a 5) (b 8) sc).1) 7 ((r_cl (a 4) (a 5) (b 8) sc).2.2)))) := hD
        refine lv_aload_n hx hb dX2_stagesRun_109 rfl (lv_at hl 3 rfl) ?_
        refine va_get (D := D) (ci := 2) (v := .ref (q 8)) (C := RX2) (T := TX2) (N := 22) hx hb hts iw_X2 hown hK hP 0 rfl rfl 13 (by decide) (hts _ kf_X2_29) (fun _ h9 => h9) rfl dX2_stagesRun_110 ?_
        refine lv_bipush (v := 8) hx hb dX2_stagesRun_113 (by decide) ?_
        refine lv_lload_n hx hb dX2_stagesRun_115 rfl (lv_at hl 1 rfl) ?_
        refine lv_aload_n hx hb dX2_stagesRun_116 rfl (lv_at hl 3 rfl) ?_
        refine va_get (D := D) (ci := 2) (v := .int (a 0 2)) (C := RX2) (T := TX2) (N := 22) hx hb hts iw_X2 hown hK hP 0 rfl rfl 6 (by decide) (hts _ kf_X2_79) (fun _ h9 => h9) rfl dX2_stagesRun_117 ?_
        refine zk_pl (rest := [.int 8, .ref (q 8)]) C0 hP hD hS (c_M_partsOf l D (tyG g) ((r_cl (a 4) (a 5) (b 8) sc).2.1) (a 0 2)) kk_X2_103 hl.1 rfl rfl (Nat.le_of_ble_eq_true rfl) ⟨(Nat.le_of_ble_eq_true rfl), (Nat.le_of_ble_eq_true rfl)⟩ rfl rfl ⟨(Nat.le_of_ble_eq_true rfl), (Nat.le_of_ble_eq_true rfl)⟩ dX2_stagesRun_120 (fun r_120 H locs hw_120 hP hS => ?_)
        obtain rfl := hw_120
        refine za_last (k := 8) (x := m_of (a 0 2) ((r_cl (a 4) (a 5) (b 8) sc).2.1)) (f := (vp_updL ((r_cl (a 4) (a 5) (b 8) sc).1) 7 ((r_cl (a 4) (a 5) (b 8) sc).2.2))) hx hb hK hP hD hS 8 1 rfl rfl rfl (by decide) (by decide) dX2_stagesRun_123 (fun H locs hP hD hS => ?_)
        have hP : va_P D vwCl (wM g q a (va_up b 8 (vp_updL (vp_updL ((r_cl (a 4) (a 5) (b 8) sc).1) 7 ((r_cl (a 4) (a 5) (b 8) sc).2.2)) 8 (m_of (a 0 2) ((r_cl (a 4) (a 5) (b 8) sc).2.1))))) H := hP
        have hD : va_D A (wM g q a (va_up b 8 (vp_updL (vp_updL ((r_cl (a 4) (a 5) (b 8) sc).1) 7 ((r_cl (a 4) (a 5) (b 8) sc).2.2)) 8 (m_of (a 0 2) ((r_cl (a 4) (a 5) (b 8) sc).2.1))))) := hD
        refine lv_aload_n hx hb dX2_stagesRun_124 rfl (lv_at hl 3 rfl) ?_
        refine va_get (D := D) (ci := 2) (v := .ref (q 7)) (C := RX2) (T := TX2) (N := 22) hx hb hts iw_X2 hown hK hP 0 rfl rfl 14 (by decide) (hts _ kf_X2_32) (fun _ h9 => h9) rfl dX2_stagesRun_125 ?_
        refine lv_aload_n hx hb dX2_stagesRun_128 rfl (lv_at hl 3 rfl) ?_
        refine va_get (D := D) (ci := 2) (v := .int (a 0 4)) (C := RX2) (T := TX2) (N := 22) hx hb hts iw_X2 hown hK hP 0 rfl rfl 12 (by decide) (hts _ kf_X2_90) (fun _ h9 => h9) rfl dX2_stagesRun_129 ?_
        rw [hd]
        refine lv_lload_n hx hb dX2_stagesRun_132 rfl (lv_at hl 1 rfl) ?_
        refine lv_aload_n hx hb dX2_stagesRun_133 rfl (lv_at hl 3 rfl) ?_
        refine va_get (D := D) (ci := 2) (v := .ref (q 8)) (C := RX2) (T := TX2) (N := 22) hx hb hts iw_X2 hown hK hP 0 rfl rfl 13 (by decide) (hts _ kf_X2_29) (fun _ h9 => h9) rfl dX2_stagesRun_134 ?_
        refine lv_bipush (v := 8) hx hb dX2_stagesRun_137 (by decide) ?_
        refine za_lald (k := 8) (f := (vp_updL (vp_updL ((r_cl (a 4) (a 5) (b 8) sc).1) 7 ((r_cl (a 4) (a 5) (b 8) sc).2.2)) 8 (m_of (a 0 2) ((r_cl (a 4) (a 5) (b 8) sc).2.1)))) (v := m_of (a 0 2) ((r_cl (a 4) (a 5) (b 8) sc).2.1)) hx hb hK hP 8 1 rfl rfl rfl (by decide) (by decide) rfl dX2_stagesRun_139 ?_
        refine lv_lsub hx hb dX2_stagesRun_140 ?_
        refine za_last (k := d) (x := ((r_cl (a 4) (a 5) (b 8) sc).2.1) - (m_of (a 0 2) ((r_cl (a 4) (a 5) (b 8) sc).2.1))) (f := (b 7)) hx hb hK hP hD hS 7 1 rfl rfl rfl (by omega) (by decide) dX2_stagesRun_141 (fun H locs hP hD hS => ?_)
        have hP : va_P D vwCl (wM g q a (va_up (va_up b 7 (vp_updL (b 7) d (((r_cl (a 4) (a 5) (b 8) sc).2.1) - (m_of (a 0 2) ((r_cl (a 4) (a 5) (b 8) sc).2.1))))) 8 (vp_updL (vp_updL ((r_cl (a 4) (a 5) (b 8) sc).1) 7 ((r_cl (a 4) (a 5) (b 8) sc).2.2)) 8 (m_of (a 0 2) ((r_cl (a 4) (a 5) (b 8) sc).2.1))))) H := hP
        have hD : va_D A (wM g q a (va_up (va_up b 7 (vp_updL (b 7) d (((r_cl (a 4) (a 5) (b 8) sc).2.1) - (m_of (a 0 2) ((r_cl (a 4) (a 5) (b 8) sc).2.1))))) 8 (vp_updL (vp_updL ((r_cl (a 4) (a 5) (b 8) sc).1) 7 ((r_cl (a 4) (a 5) (b 8) sc).2.2)) 8 (m_of (a 0 2) ((r_cl (a 4) (a 5) (b 8) sc).2.1))))) := hD
        refine lv_aload_n hx hb dX2_stagesRun_142 rfl (lv_at hl 3 rfl) ?_
        refine va_get (D := D) (ci := 2) (v := .ref (q 8)) (C := RX2) (T := TX2) (N := 22) hx hb hts iw_X2 hown hK hP 0 rfl rfl 13 (by decide) (hts _ kf_X2_29) (fun _ h9 => h9) rfl dX2_stagesRun_143 ?_
        refine lv_bipush (v := 6) hx hb dX2_stagesRun_146 (by decide) ?_
        refine lv_dup2_11 hx hb dX2_stagesRun_148 rfl rfl ?_
        refine za_lald (k := 6) (f := (vp_updL (vp_updL ((r_cl (a 4) (a 5) (b 8) sc).1) 7 ((r_cl (a 4) (a 5) (b 8) sc).2.2)) 8 (m_of (a 0 2) ((r_cl (a 4) (a 5) (b 8) sc).2.1)))) (v := (r_cl (a 4) (a 5) (b 8) sc).1 6) hx hb hK hP 8 1 rfl rfl rfl (by decide) (by decide) rfl dX2_stagesRun_149 ?_
        refine lv_aload_n hx hb dX2_stagesRun_150 rfl (lv_at hl 3 rfl) ?_
        refine va_get (D := D) (ci := 2) (v := .ref (q 7)) (C := RX2) (T := TX2) (N := 22) hx hb hts iw_X2 hown hK hP 0 rfl rfl 14 (by decide) (hts _ kf_X2_32) (fun _ h9 => h9) rfl dX2_stagesRun_151 ?_
        refine lv_aload_n hx hb dX2_stagesRun_154 rfl (lv_at hl 3 rfl) ?_
        refine va_get (D := D) (ci := 2) (v := .int (a 0 4)) (C := RX2) (T := TX2) (N := 22) hx hb hts iw_X2 hown hK hP 0 rfl rfl 12 (by decide) (hts _ kf_X2_90) (fun _ h9 => h9) rfl dX2_stagesRun_155 ?_
        rw [hd]
        refine za_lald (k := d) (f := (vp_updL (b 7) d (((r_cl (a 4) (a 5) (b 8) sc).2.1) - (m_of (a 0 2) ((r_cl (a 4) (a 5) (b 8) sc).2.1))))) (v := ((r_cl (a 4) (a 5) (b 8) sc).2.1) - (m_of (a 0 2) ((r_cl (a 4) (a 5) (b 8) sc).2.1))) hx hb hK hP 7 1 rfl rfl rfl (by omega) (by decide) pk_uLs dX2_stagesRun_158 ?_
        refine lv_ladd hx hb dX2_stagesRun_159 ?_
        refine za_last (k := 6) (x := ((r_cl (a 4) (a 5) (b 8) sc).1 6) + (((r_cl (a 4) (a 5) (b 8) sc).2.1) - (m_of (a 0 2) ((r_cl (a 4) (a 5) (b 8) sc).2.1)))) (f := (vp_updL (vp_updL ((r_cl (a 4) (a 5) (b 8) sc).1) 7 ((r_cl (a 4) (a 5) (b 8) sc).2.2)) 8 (m_of (a 0 2) ((r_cl (a 4) (a 5) (b 8) sc).2.1)))) hx hb hK hP hD hS 8 1 rfl rfl rfl (by decide) (by decide) dX2_stagesRun_160 (fun H locs hP hD hS => ?_)
        have hP : va_P D vwCl (wM g q a (va_up (va_up b 7 (vp_updL (b 7) d (((r_cl (a 4) (a 5) (b 8) sc).2.1) - (m_of (a 0 2) ((r_cl (a 4) (a 5) (b 8) sc).2.1))))) 8 (vp_updL (vp_updL (vp_updL ((r_cl (a 4) (a 5) (b 8) sc).1) 7 ((r_cl (a 4) (a 5) (b 8) sc).2.2)) 8 (m_of (a 0 2) ((r_cl (a 4) (a 5) (b 8) sc).2.1))) 6 (((r_cl (a 4) (a 5) (b 8) sc).1 6) + (((r_cl (a 4) (a 5) (b 8) sc).2.1) - (m_of (a 0 2) ((r_cl (a 4) (a 5) (b 8) sc).2.1))))))) H := hP
        have hD : va_D A (wM g q a (va_up (va_up b 7 (vp_updL (b 7) d (((r_cl (a 4) (a 5) (b 8) sc).2.1) - (m_of (a 0 2) ((r_cl (a 4) (a 5) (b 8) sc).2.1))))) 8 (vp_updL (vp_updL (vp_updL ((r_cl (a 4) (a 5) (b 8) sc).1) 7 ((r_cl (a 4) (a 5) (b 8) sc).2.2)) 8 (m_of (a 0 2) ((r_cl (a 4) (a 5) (b 8) sc).2.1))) 6 (((r_cl (a 4) (a 5) (b 8) sc).1 6) + (((r_cl (a 4) (a 5) (b 8) sc).2.1) - (m_of (a 0 2) ((r_cl (a 4) (a 5) (b 8) sc).2.1))))))) := hD
        exact hret (va_up (va_up b 7 (vp_updL (b 7) d (((r_cl (a 4) (a 5) (b 8) sc).2.1) - (m_of (a 0 2) ((r_cl (a 4) (a 5) (b 8) sc).2.1))))) 8 (vp_updL (vp_updL (vp_updL ((r_cl (a 4) (a 5) (b 8) sc).1) 7 ((r_cl (a 4) (a 5) (b 8) sc).2.2)) 8 (m_of (a 0 2) ((r_cl (a 4) (a 5) (b 8) sc).2.1))) 6 (((r_cl (a 4) (a 5) (b 8) sc).1 6) + (((r_cl (a 4) (a 5) (b 8) sc).2.1) - (m_of (a 0 2) ((r_cl (a 4) (a 5) (b 8) sc).2.1)))))) _ _ _ _ _ _ (by first | exact (if_pos hs0).symm | exact (if_neg hs0).symm) hP hD hS (Nat.le_of_ble_eq_true rfl) (Nat.le_of_ble_eq_true rfl) dX2_stagesRun_161
      | succ t_21 ih_21 =>
        intro i hi_21 H locs ls hP hD hS hl
        refine lv_iload hx hb dX2_stagesRun_21 (lv_at hl 0 rfl) ?_
        refine lv_aload_n hx hb dX2_stagesRun_23 rfl (lv_at hl 3 rfl) ?_
        refine va_get (D := D) (ci := 2) (v := .int (a 0 3)) (C := RX2) (T := TX2) (N := 22) hx hb hts iw_X2 hown hK hP 0 rfl rfl 8 (by decide) (hts _ kf_X2_87) (fun _ h9 => h9) rfl dX2_stagesRun_24 ?_
        rw [hsc]
        refine lv_icmp_ge (tgt := 101) hx hb dX2_stagesRun_27 (by decide) (fun c_27 => absurd c_27 (nI_ge (by omega) (by omega))) (fun _ => ?_)
        refine lv_lload_n hx hb dX2_stagesRun_30 rfl (lv_at hl 1 rfl) ?_
        refine lv_aload_n hx hb dX2_stagesRun_31 rfl (lv_at hl 3 rfl) ?_
        refine va_get (D := D) (ci := 2) (v := .ref (q 4)) (C := RX2) (T := TX2) (N := 22) hx hb hts iw_X2 hown hK hP 0 rfl rfl 9 (by decide) (hts _ kf_X2_20) (fun _ h9 => h9) rfl dX2_stagesRun_32 ?_
        refine lv_iload hx hb dX2_stagesRun_35 (lv_at hl 0 rfl) ?_
        refine za_iald (k := i) (f := (a 4)) (v := a 4 i) hx hb hK hP 4 0 rfl rfl rfl (by omega) (by decide) rfl dX2_stagesRun_37 ?_
        refine lv_i2l (v := (a 4 i).toInt64) hx hb dX2_stagesRun_38 rfl ?_
        refine zl_ge (tgt := 47) hx hb dX2_stagesRun_39 dX2_stagesRun_40 (by decide) (fun c_39 => ?_) (fun c_39 => ?_)
        · -- jump at 39
          refine lv_aload_n hx hb dX2_stagesRun_47 rfl (lv_at hl 3 rfl) ?_
          refine va_get (D := D) (ci := 2) (v := .ref (q 4)) (C := RX2) (T := TX2) (N := 22) hx hb hts iw_X2 hown hK hP 0 rfl rfl 9 (by decide) (hts _ kf_X2_20) (fun _ h9 => h9) rfl dX2_stagesRun_48 ?_
          refine lv_iload hx hb dX2_stagesRun_51 (lv_at hl 0 rfl) ?_
          refine za_iald (k := i) (f := (a 4)) (v := a 4 i) hx hb hK hP 4 0 rfl rfl rfl (by omega) (by decide) rfl dX2_stagesRun_53 ?_
          refine lv_i2l (v := (a 4 i).toInt64) hx hb dX2_stagesRun_54 rfl ?_
          refine lv_topl (fun t9_1 et9_1 => ?_)
          obtain rfl : t9_1 = m_min (a 4 i).toInt64 (r_cl (a 4) (a 5) (b 8) i).2.1 := et9_1.trans (m_min_ge c_39)
          refine lv_lstore (lv' := [(6, .long (m_min (a 4 i).toInt64 (r_cl (a 4) (a 5) (b 8) i).2.1)), (5, .int (nI i)), (1, .long ((r_cl (a 4) (a 5) (b 8) i).2.1)), (3, .long ((r_cl (a 4) (a 5) (b 8) i).2.2)), (0, .ref (q 0))]) hx hb dX2_stagesRun_55 hl (by decide) rfl (fun ls hl => ?_)
          refine lv_lload_n hx hb dX2_stagesRun_57 rfl (lv_at hl 3 rfl) ?_
          refine lv_lload_n hx hb dX2_stagesRun_58 rfl (lv_at hl 2 rfl) ?_
          refine lv_lload hx hb dX2_stagesRun_59 (lv_at hl 0 rfl) ?_
          refine lv_lsub hx hb dX2_stagesRun_61 ?_
          refine lv_ladd hx hb dX2_stagesRun_62 ?_
          refine lv_lstore_n (lv' := [(3, .long (((r_cl (a 4) (a 5) (b 8) i).2.2) + (((r_cl (a 4) (a 5) (b 8) i).2.1) - (m_min (a 4 i).toInt64 (r_cl (a 4) (a 5) (b 8) i).2.1)))), (6, .long (m_min (a 4 i).toInt64 (r_cl (a 4) (a 5) (b 8) i).2.1)), (5, .int (nI i)), (1, .long ((r_cl (a 4) (a 5) (b 8) i).2.1)), (0, .ref (q 0))]) hx hb dX2_stagesRun_63 rfl hl (by decide) rfl (fun ls hl => ?_)
          refine lv_lload hx hb dX2_stagesRun_64 (lv_at hl 1 rfl) ?_
          refine lv_aload_n hx hb dX2_stagesRun_66 rfl (lv_at hl 4 rfl) ?_
          refine va_get (D := D) (ci := 2) (v := .ref (q 5)) (C := RX2) (T := TX2) (N := 22) hx hb hts iw_X2 hown hK hP 0 rfl rfl 10 (by decide) (hts _ kf_X2_23) (fun _ h9 => h9) rfl dX2_stagesRun_67 ?_
          refine lv_iload hx hb dX2_stagesRun_70 (lv_at hl 2 rfl) ?_
          refine za_iald (k := i) (f := (a 5)) (v := a 5 i) hx hb hK hP 5 0 rfl rfl rfl (by omega) (by decide) rfl dX2_stagesRun_72 ?_
          refine zk_pl (rest := []) C0 hP hD hS (c_M_partsOf l D (tyG g) (m_min (a 4 i).toInt64 (r_cl (a 4) (a 5) (b 8) i).2.1) (a 5 i)) kk_X2_103 hl.1 rfl rfl (Nat.le_of_ble_eq_true rfl) ⟨(Nat.le_of_ble_eq_true rfl), (Nat.le_of_ble_eq_true rfl)⟩ rfl rfl ⟨(Nat.le_of_ble_eq_true rfl), (Nat.le_of_ble_eq_true rfl)⟩ dX2_stagesRun_73 (fun r_73 H locs hw_73 hP hS => ?_)
          obtain rfl := hw_73
          refine lv_lstore (lv' := [(8, .long (m_of (a 5 i) (m_min (a 4 i).toInt64 (r_cl (a 4) (a 5) (b 8) i).2.1))), (3, .long (((r_cl (a 4) (a 5) (b 8) i).2.2) + (((r_cl (a 4) (a 5) (b 8) i).2.1) - (m_min (a 4 i).toInt64 (r_cl (a 4) (a 5) (b 8) i).2.1)))), (6, .long (m_min (a 4 i).toInt64 (r_cl (a 4) (a 5) (b 8) i).2.1)), (5, .int (nI i)), (1, .long ((r_cl (a 4) (a 5) (b 8) i).2.1)), (0, .ref (q 0))]) hx hb dX2_stagesRun_76 hl (by decide) rfl (fun ls hl => ?_)
          refine lv_aload_n hx hb dX2_stagesRun_78 rfl (lv_at hl 5 rfl) ?_
          refine va_get (D := D) (ci := 2) (v := .ref (q 8)) (C := RX2) (T := TX2) (N := 22) hx hb hts iw_X2 hown hK hP 0 rfl rfl 13 (by decide) (hts _ kf_X2_29) (fun _ h9 => h9) rfl dX2_stagesRun_79 ?_
          refine lv_iconst (v := 5) hx hb dX2_stagesRun_82 (by decide) ?_
          refine lv_dup2_11 hx hb dX2_stagesRun_83 rfl rfl ?_
          refine za_lald (k := 5) (f := ((r_cl (a 4) (a 5) (b 8) i).1)) (v := (r_cl (a 4) (a 5) (b 8) i).1 5) hx hb hK hP 8 1 rfl rfl rfl (by decide) (by decide) rfl dX2_stagesRun_84 ?_
          refine lv_lload hx hb dX2_stagesRun_85 (lv_at hl 0 rfl) ?_
          refine lv_ladd hx hb dX2_stagesRun_87 ?_
          refine za_last (k := 5) (x := ((r_cl (a 4) (a 5) (b 8) i).1 5) + (m_of (a 5 i) (m_min (a 4 i).toInt64 (r_cl (a 4) (a 5) (b 8) i).2.1))) (f := ((r_cl (a 4) (a 5) (b 8) i).1)) hx hb hK hP hD hS 8 1 rfl rfl rfl (by decide) (by decide) dX2_stagesRun_88 (fun H locs hP hD hS => ?_)
          have hP : va_P D vwCl (wM g q a (va_up b 8 (vp_updL ((r_cl (a 4) (a 5) (b 8) i).1) 5 (((r_cl (a 4) (a 5) (b 8) i).1 5) + (m_of (a 5 i) (m_min (a 4 i).toInt64 (r_cl (a 4) (a 5) (b 8) i).2.1)))))) H := hP
          have hD : va_D A (wM g q a (va_up b 8 (vp_updL ((r_cl (a 4) (a 5) (b 8) i).1) 5 (((r_cl (a 4) (a 5) (b 8) i).1 5) + (m_of (a 5 i) (m_min (a 4 i).toInt64 (r_cl (a 4) (a 5) (b 8) i).2.1)))))) := hD
          refine lv_lload hx hb dX2_stagesRun_89 (lv_at hl 2 rfl) ?_
          refine lv_lload hx hb dX2_stagesRun_91 (lv_at hl 0 rfl) ?_
          refine lv_lsub hx hb dX2_stagesRun_93 ?_
          refine lv_lstore_n (lv' := [(1, .long ((m_min (a 4 i).toInt64 (r_cl (a 4) (a 5) (b 8) i).2.1) - (m_of (a 5 i) (m_min (a 4 i).toInt64 (r_cl (a 4) (a 5) (b 8) i).2.1)))), (8, .long (m_of (a 5 i) (m_min (a 4 i).toInt64 (r_cl (a 4) (a 5) (b 8) i).2.1))), (3, .long (((r_cl (a 4) (a 5) (b 8) i).2.2) + (((r_cl (a 4) (a 5) (b 8) i).2.1) - (m_min (a 4 i).toInt64 (r_cl (a 4) (a 5) (b 8) i).2.1)))), (6, .long (m_min (a 4 i).toInt64 (r_cl (a 4) (a 5) (b 8) i).2.1)), (5, .int (nI i)), (0, .ref (q 0))]) hx hb dX2_stagesRun_94 rfl hl (by decide) rfl (fun ls hl => ?_)
          refine lv_iinc (v := nI (i + 1)) (lv' := [(5, .int (nI (i + 1))), (1, .long ((m_min (a 4 i).toInt64 (r_cl (a 4) (a 5) (b 8) i).2.1) - (m_of (a 5 i) (m_min (a 4 i).toInt64 (r_cl (a 4) (a 5) (b 8) i).2.1)))), (8, .long (m_of (a 5 i) (m_min (a 4 i).toInt64 (r_cl (a 4) (a 5) (b 8) i).2.1))), (3, .long (((r_cl (a 4) (a 5) (b 8) i).2.2) + (((r_cl (a 4) (a 5) (b 8) i).2.1) - (m_min (a 4 i).toInt64 (r_cl (a 4) (a 5) (b 8) i).2.1)))), (6, .long (m_min (a 4 i).toInt64 (r_cl (a 4) (a 5) (b 8) i).2.1)), (0, .ref (q 0))]) hx hb dX2_stagesRun_95 hl (k := 4) rfl (nI_1 i) (by decide) rfl (fun ls hl => ?_)
          refine lv_goto (tgt := 21) hx hb dX2_stagesRun_98 (by decide) ?_
          have hP : va_P D vwCl (wM g q a (va_up b 8 ((r_cl (a 4) (a 5) (b 8) (i + 1)).1))) _ := hP
          have hD : va_D A (wM g q a (va_up b 8 ((r_cl (a 4) (a 5) (b 8) (i + 1)).1))) := hD
          have hl : lv_has ls 10 [(5, .int (nI (i + 1))), (1, .long ((r_cl (a 4) (a 5) (b 8) (i + 1)).2.1)), (3, .long ((r_cl (a 4) (a 5) (b 8) (i + 1)).2.2)), (0, .ref (q 0))] := lv_sub hl [0, 1, 3, 5] rfl
          exact ih_21 (i + 1)  (by omega)  _ _ _ hP hD hS hl
        · -- on at 39
          refine lv_lload_n hx hb dX2_stagesRun_43 rfl (lv_at hl 1 rfl) ?_
          refine lv_goto (tgt := 55) hx hb dX2_stagesRun_44 (by decide) ?_
          refine lv_topl (fun t9_2 et9_2 => ?_)
          obtain rfl : t9_2 = m_min (a 4 i).toInt64 (r_cl (a 4) (a 5) (b 8) i).2.1 := et9_2.trans (m_min_lt c_39)
          refine lv_lstore (lv' := [(6, .long (m_min (a 4 i).toInt64 (r_cl (a 4) (a 5) (b 8) i).2.1)), (5, .int (nI i)), (1, .long ((r_cl (a 4) (a 5) (b 8) i).2.1)), (3, .long ((r_cl (a 4) (a 5) (b 8) i).2.2)), (0, .ref (q 0))]) hx hb dX2_stagesRun_55 hl (by decide) rfl (fun ls hl => ?_)
          refine lv_lload_n hx hb dX2_stagesRun_57 rfl (lv_at hl 3 rfl) ?_
          refine lv_lload_n hx hb dX2_stagesRun_58 rfl (lv_at hl 2 rfl) ?_
          refine lv_lload hx hb dX2_stagesRun_59 (lv_at hl 0 rfl) ?_
          refine lv_lsub hx hb dX2_stagesRun_61 ?_
          refine lv_ladd hx hb dX2_stagesRun_62 ?_
          refine lv_lstore_n (lv' := [(3, .long (((r_cl (a 4) (a 5) (b 8) i).2.2) + (((r_cl (a 4) (a 5) (b 8) i).2.1) - (m_min (a 4 i).toInt64 (r_cl (a 4) (a 5) (b 8) i).2.1)))), (6, .long (m_min (a 4 i).toInt64 (r_cl (a 4) (a 5) (b 8) i).2.1)), (5, .int (nI i)), (1, .long ((r_cl (a 4) (a 5) (b 8) i).2.1)), (0, .ref (q 0))]) hx hb dX2_stagesRun_63 rfl hl (by decide) rfl (fun ls hl => ?_)
          refine lv_lload hx hb dX2_stagesRun_64 (lv_at hl 1 rfl) ?_
          refine lv_aload_n hx hb dX2_stagesRun_66 rfl (lv_at hl 4 rfl) ?_
          refine va_get (D := D) (ci := 2) (v := .ref (q 5)) (C := RX2) (T := TX2) (N := 22) hx hb hts iw_X2 hown hK hP 0 rfl rfl 10 (by decide) (hts _ kf_X2_23) (fun _ h9 => h9) rfl dX2_stagesRun_67 ?_
          refine lv_iload hx hb dX2_stagesRun_70 (lv_at hl 2 rfl) ?_
          refine za_iald (k := i) (f := (a 5)) (v := a 5 i) hx hb hK hP 5 0 rfl rfl rfl (by omega) (by decide) rfl dX2_stagesRun_72 ?_
          refine zk_pl (rest := []) C0 hP hD hS (c_M_partsOf l D (tyG g) (m_min (a 4 i).toInt64 (r_cl (a 4) (a 5) (b 8) i).2.1) (a 5 i)) kk_X2_103 hl.1 rfl rfl (Nat.le_of_ble_eq_true rfl) ⟨(Nat.le_of_ble_eq_true rfl), (Nat.le_of_ble_eq_true rfl)⟩ rfl rfl ⟨(Nat.le_of_ble_eq_true rfl), (Nat.le_of_ble_eq_true rfl)⟩ dX2_stagesRun_73 (fun r_73 H locs hw_73 hP hS => ?_)
          obtain rfl := hw_73
          refine lv_lstore (lv' := [(8, .long (m_of (a 5 i) (m_min (a 4 i).toInt64 (r_cl (a 4) (a 5) (b 8) i).2.1))), (3, .long (((r_cl (a 4) (a 5) (b 8) i).2.2) + (((r_cl (a 4) (a 5) (b 8) i).2.1) - (m_min (a 4 i).toInt64 (r_cl (a 4) (a 5) (b 8) i).2.1)))), (6, .long (m_min (a 4 i).toInt64 (r_cl (a 4) (a 5) (b 8) i).2.1)), (5, .int (nI i)), (1, .long ((r_cl (a 4) (a 5) (b 8) i).2.1)), (0, .ref (q 0))]) hx hb dX2_stagesRun_76 hl (by decide) rfl (fun ls hl => ?_)
          refine lv_aload_n hx hb dX2_stagesRun_78 rfl (lv_at hl 5 rfl) ?_
          refine va_get (D := D) (ci := 2) (v := .ref (q 8)) (C := RX2) (T := TX2) (N := 22) hx hb hts iw_X2 hown hK hP 0 rfl rfl 13 (by decide) (hts _ kf_X2_29) (fun _ h9 => h9) rfl dX2_stagesRun_79 ?_
          refine lv_iconst (v := 5) hx hb dX2_stagesRun_82 (by decide) ?_
          refine lv_dup2_11 hx hb dX2_stagesRun_83 rfl rfl ?_
          refine za_lald (k := 5) (f := ((r_cl (a 4) (a 5) (b 8) i).1)) (v := (r_cl (a 4) (a 5) (b 8) i).1 5) hx hb hK hP 8 1 rfl rfl rfl (by decide) (by decide) rfl dX2_stagesRun_84 ?_
          refine lv_lload hx hb dX2_stagesRun_85 (lv_at hl 0 rfl) ?_
          refine lv_ladd hx hb dX2_stagesRun_87 ?_
          refine za_last (k := 5) (x := ((r_cl (a 4) (a 5) (b 8) i).1 5) + (m_of (a 5 i) (m_min (a 4 i).toInt64 (r_cl (a 4) (a 5) (b 8) i).2.1))) (f := ((r_cl (a 4) (a 5) (b 8) i).1)) hx hb hK hP hD hS 8 1 rfl rfl rfl (by decide) (by decide) dX2_stagesRun_88 (fun H locs hP hD hS => ?_)
          have hP : va_P D vwCl (wM g q a (va_up b 8 (vp_updL ((r_cl (a 4) (a 5) (b 8) i).1) 5 (((r_cl (a 4) (a 5) (b 8) i).1 5) + (m_of (a 5 i) (m_min (a 4 i).toInt64 (r_cl (a 4) (a 5) (b 8) i).2.1)))))) H := hP
          have hD : va_D A (wM g q a (va_up b 8 (vp_updL ((r_cl (a 4) (a 5) (b 8) i).1) 5 (((r_cl (a 4) (a 5) (b 8) i).1 5) + (m_of (a 5 i) (m_min (a 4 i).toInt64 (r_cl (a 4) (a 5) (b 8) i).2.1)))))) := hD
          refine lv_lload hx hb dX2_stagesRun_89 (lv_at hl 2 rfl) ?_
          refine lv_lload hx hb dX2_stagesRun_91 (lv_at hl 0 rfl) ?_
          refine lv_lsub hx hb dX2_stagesRun_93 ?_
          refine lv_lstore_n (lv' := [(1, .long ((m_min (a 4 i).toInt64 (r_cl (a 4) (a 5) (b 8) i).2.1) - (m_of (a 5 i) (m_min (a 4 i).toInt64 (r_cl (a 4) (a 5) (b 8) i).2.1)))), (8, .long (m_of (a 5 i) (m_min (a 4 i).toInt64 (r_cl (a 4) (a 5) (b 8) i).2.1))), (3, .long (((r_cl (a 4) (a 5) (b 8) i).2.2) + (((r_cl (a 4) (a 5) (b 8) i).2.1) - (m_min (a 4 i).toInt64 (r_cl (a 4) (a 5) (b 8) i).2.1)))), (6, .long (m_min (a 4 i).toInt64 (r_cl (a 4) (a 5) (b 8) i).2.1)), (5, .int (nI i)), (0, .ref (q 0))]) hx hb dX2_stagesRun_94 rfl hl (by decide) rfl (fun ls hl => ?_)
          refine lv_iinc (v := nI (i + 1)) (lv' := [(5, .int (nI (i + 1))), (1, .long ((m_min (a 4 i).toInt64 (r_cl (a 4) (a 5) (b 8) i).2.1) - (m_of (a 5 i) (m_min (a 4 i).toInt64 (r_cl (a 4) (a 5) (b 8) i).2.1)))), (8, .long (m_of (a 5 i) (m_min (a 4 i).toInt64 (r_cl (a 4) (a 5) (b 8) i).2.1))), (3, .long (((r_cl (a 4) (a 5) (b 8) i).2.2) + (((r_cl (a 4) (a 5) (b 8) i).2.1) - (m_min (a 4 i).toInt64 (r_cl (a 4) (a 5) (b 8) i).2.1)))), (6, .long (m_min (a 4 i).toInt64 (r_cl (a 4) (a 5) (b 8) i).2.1)), (0, .ref (q 0))]) hx hb dX2_stagesRun_95 hl (k := 4) rfl (nI_1 i) (by decide) rfl (fun ls hl => ?_)
          refine lv_goto (tgt := 21) hx hb dX2_stagesRun_98 (by decide) ?_
          have hP : va_P D vwCl (wM g q a (va_up b 8 ((r_cl (a 4) (a 5) (b 8) (i + 1)).1))) _ := hP
          have hD : va_D A (wM g q a (va_up b 8 ((r_cl (a 4) (a 5) (b 8) (i + 1)).1))) := hD
          have hl : lv_has ls 10 [(5, .int (nI (i + 1))), (1, .long ((r_cl (a 4) (a 5) (b 8) (i + 1)).2.1)), (3, .long ((r_cl (a 4) (a 5) (b 8) (i + 1)).2.2)), (0, .ref (q 0))] := lv_sub hl [0, 1, 3, 5] rfl
          exact ih_21 (i + 1)  (by omega)  _ _ _ hP hD hS hl
    exact lp_21 (sc - 0) 0  (by omega)  _ _ _ hP hD hS (lv_sub hl [0, 2, 1, 3] rfl)
  · -- on at 4
    have hs0 : sc = 0 := by have h1 := c_4; rcases Nat.eq_zero_or_pos sc with h | h; exact h; exact absurd h1 (nI_ne0 h (by omega))
    exact hret b _ _ _ _ _ _ (by first | exact (if_pos hs0).symm | exact (if_neg hs0).symm) hP hD hS (Nat.le_of_ble_eq_true rfl) (Nat.le_of_ble_eq_true rfl) dX2_stagesRun_7
def rm_M_dayRuns : Room := { frames := 2, cells := 0, slots := 0, locals := 51 }
set_option maxHeartbeats 4000000 in
set_option maxRecDepth 100000 in
theorem c_M_dayRuns (l : Launch) (D : va_G) (g : Nat → ClassId) (q : Nat → Nat) (a : Nat → Nat → Int32) (b : Nat → Nat → Int64) (n : Nat) (hn : 1 ≤ n ∧ n ≤ 6) (hly : a 0 5 = nI n) (sc : Nat) (hsc : a 0 3 = nI sc) (hsc4 : sc ≤ 4) (d : Nat) (hd : a 0 4 = nI d) (hd4 : d < 400) : zc_v l D (tyG g) yX2_dayRuns cX2_dayRuns 11 none rm_M_dayRuns [.ref (q 0)] (wM g q a b) (fun (u : (Nat → Nat → Int64)) => u = r_day n sc a b d) (fun u => wM g q (va_up a 0 (upd (a 0) 4 (nI (d + 1)))) u) 0 0 := by
  refine zv_of (by decide) (Nat.le_of_ble_eq_true rfl) rfl ?_
  intro p e s m args below meth cd_ A Q ls C0 hnm hP hD hS hl hret
  obtain ⟨hx, hb, hr, hml, hlocks, hown, hts, hK, hA, hN⟩ := id C0
  have hl : lv_has ls 11 [(0, .ref (q 0))] := hl
  refine lv_aload_n hx hb dX2_dayRuns_0 rfl (lv_at hl 0 rfl) ?_
  refine va_get (D := D) (ci := 2) (v := .ref (q 6)) (C := RX2) (T := TX2) (N := 22) hx hb hts iw_X2 hown hK hP 0 rfl rfl 11 (by decide) (hts _ kf_X2_26) (fun _ h9 => h9) rfl dX2_dayRuns_1 ?_
  refine lv_aload_n hx hb dX2_dayRuns_4 rfl (lv_at hl 0 rfl) ?_
  refine va_get (D := D) (ci := 2) (v := .int (a 0 4)) (C := RX2) (T := TX2) (N := 22) hx hb hts iw_X2 hown hK hP 0 rfl rfl 12 (by decide) (hts _ kf_X2_90) (fun _ h9 => h9) rfl dX2_dayRuns_5 ?_
  rw [hd]
  refine za_iald (k := d) (f := (a 6)) (v := a 6 d) hx hb hK hP 6 0 rfl rfl rfl (by omega) (by decide) rfl dX2_dayRuns_8 ?_
  refine lv_i2l (v := (a 6 d).toInt64) hx hb dX2_dayRuns_9 rfl ?_
  refine lv_lstore_n (lv' := [(1, .long ((a 6 d).toInt64)), (0, .ref (q 0))]) hx hb dX2_dayRuns_10 rfl hl (by decide) rfl (fun ls hl => ?_)
  refine lv_lload_n hx hb dX2_dayRuns_11 rfl (lv_at hl 0 rfl) ?_
  refine lv_aload_n hx hb dX2_dayRuns_12 rfl (lv_at hl 1 rfl) ?_
  refine va_get (D := D) (ci := 2) (v := .int (a 0 0)) (C := RX2) (T := TX2) (N := 22) hx hb hts iw_X2 hown hK hP 0 rfl rfl 4 (by decide) (hts _ kf_X2_73) (fun _ h9 => h9) rfl dX2_dayRuns_13 ?_
  refine zk_pl (rest := []) C0 hP hD hS (c_M_partsOf l D (tyG g) ((a 6 d).toInt64) (a 0 0)) kk_X2_103 hl.1 rfl rfl (Nat.le_of_ble_eq_true rfl) ⟨(Nat.le_of_ble_eq_true rfl), (Nat.le_of_ble_eq_true rfl)⟩ rfl rfl ⟨(Nat.le_of_ble_eq_true rfl), (Nat.le_of_ble_eq_true rfl)⟩ dX2_dayRuns_16 (fun r_16 H locs hw_16 hP hS => ?_)
  obtain rfl := hw_16
  refine lv_lstore_n (lv' := [(3, .long (m_of (a 0 0) ((a 6 d).toInt64))), (1, .long ((a 6 d).toInt64)), (0, .ref (q 0))]) hx hb dX2_dayRuns_19 rfl hl (by decide) rfl (fun ls hl => ?_)
  refine lv_aload_n hx hb dX2_dayRuns_20 rfl (lv_at hl 2 rfl) ?_
  refine va_get (D := D) (ci := 2) (v := .ref (q 8)) (C := RX2) (T := TX2) (N := 22) hx hb hts iw_X2 hown hK hP 0 rfl rfl 13 (by decide) (hts _ kf_X2_29) (fun _ h9 => h9) rfl dX2_dayRuns_21 ?_
  refine lv_iconst (v := 0) hx hb dX2_dayRuns_24 (by decide) ?_
  refine lv_dup2_11 hx hb dX2_dayRuns_25 rfl rfl ?_
  refine za_lald (k := 0) (f := (b 8)) (v := b 8 0) hx hb hK hP 8 1 rfl rfl rfl (by decide) (by decide) rfl dX2_dayRuns_26 ?_
  refine lv_lload_n hx hb dX2_dayRuns_27 rfl (lv_at hl 1 rfl) ?_
  refine lv_ladd hx hb dX2_dayRuns_28 ?_
  refine za_last (k := 0) (x := (b 8 0) + ((a 6 d).toInt64)) (f := (b 8)) hx hb hK hP hD hS 8 1 rfl rfl rfl (by decide) (by decide) dX2_dayRuns_29 (fun H locs hP hD hS => ?_)
  have hP : va_P D vwCl (wM g q a (va_up b 8 (vp_updL (b 8) 0 ((b 8 0) + ((a 6 d).toInt64))))) H := hP
  have hD : va_D A (wM g q a (va_up b 8 (vp_updL (b 8) 0 ((b 8 0) + ((a 6 d).toInt64))))) := hD
  refine lv_aload_n hx hb dX2_dayRuns_30 rfl (lv_at hl 2 rfl) ?_
  refine va_get (D := D) (ci := 2) (v := .ref (q 8)) (C := RX2) (T := TX2) (N := 22) hx hb hts iw_X2 hown hK hP 0 rfl rfl 13 (by decide) (hts _ kf_X2_29) (fun _ h9 => h9) rfl dX2_dayRuns_31 ?_
  refine lv_iconst (v := 1) hx hb dX2_dayRuns_34 (by decide) ?_
  refine lv_dup2_11 hx hb dX2_dayRuns_35 rfl rfl ?_
  refine za_lald (k := 1) (f := (vp_updL (b 8) 0 ((b 8 0) + ((a 6 d).toInt64)))) (v := b 8 1) hx hb hK hP 8 1 rfl rfl rfl (by decide) (by decide) rfl dX2_dayRuns_36 ?_
  refine lv_lload_n hx hb dX2_dayRuns_37 rfl (lv_at hl 0 rfl) ?_
  refine lv_ladd hx hb dX2_dayRuns_38 ?_
  refine za_last (k := 1) (x := (b 8 1) + (m_of (a 0 0) ((a 6 d).toInt64))) (f := (vp_updL (b 8) 0 ((b 8 0) + ((a 6 d).toInt64)))) hx hb hK hP hD hS 8 1 rfl rfl rfl (by decide) (by decide) dX2_dayRuns_39 (fun H locs hP hD hS => ?_)
  have hP : va_P D vwCl (wM g q a (va_up b 8 (vp_updL (vp_updL (b 8) 0 ((b 8 0) + ((a 6 d).toInt64))) 1 ((b 8 1) + (m_of (a 0 0) ((a 6 d).toInt64)))))) H := hP
  have hD : va_D A (wM g q a (va_up b 8 (vp_updL (vp_updL (b 8) 0 ((b 8 0) + ((a 6 d).toInt64))) 1 ((b 8 1) + (m_of (a 0 0) ((a 6 d).toInt64)))))) := hD
  refine lv_aload_n hx hb dX2_dayRuns_40 rfl (lv_at hl 2 rfl) ?_
  refine va_get (D := D) (ci := 2) (v := .ref (q 1)) (C := RX2) (T := TX2) (N := 22) hx hb hts iw_X2 hown hK hP 0 rfl rfl 1 (by decide) (hts _ kf_X2_7) (fun _ h9 => h9) rfl dX2_dayRuns_41 ?_
  refine lv_iconst (v := 0) hx hb dX2_dayRuns_44 (by decide) ?_
  refine lv_dup2_11 hx hb dX2_dayRuns_45 rfl rfl ?_
  refine za_lald (k := 0) (f := (b 1)) (v := b 1 0) hx hb hK hP 1 1 rfl rfl rfl (by decide) (by decide) rfl dX2_dayRuns_46 ?_
  refine lv_lload_n hx hb dX2_dayRuns_47 rfl (lv_at hl 1 rfl) ?_
  refine lv_lload_n hx hb dX2_dayRuns_48 rfl (lv_at hl 0 rfl) ?_
  refine lv_lsub hx hb dX2_dayRuns_49 ?_
  refine lv_aload_n hx hb dX2_dayRuns_50 rfl (lv_at hl 2 rfl) ?_
  refine va_get (D := D) (ci := 2) (v := .ref (q 8)) (C := RX2) (T := TX2) (N := 22) hx hb hts iw_X2 hown hK hP 0 rfl rfl 13 (by decide) (hts _ kf_X2_29) (fun _ h9 => h9) rfl dX2_dayRuns_51 ?_
  refine lv_bipush (v := 8) hx hb dX2_dayRuns_54 (by decide) ?_
  refine za_lald (k := 8) (f := (vp_updL (vp_updL (b 8) 0 ((b 8 0) + ((a 6 d).toInt64))) 1 ((b 8 1) + (m_of (a 0 0) ((a 6 d).toInt64))))) (v := b 8 8) hx hb hK hP 8 1 rfl rfl rfl (by decide) (by decide) rfl dX2_dayRuns_56 ?_
  refine lv_ladd hx hb dX2_dayRuns_57 ?_
  refine lv_ladd hx hb dX2_dayRuns_58 ?_
  refine za_last (k := 0) (x := (b 1 0) + ((((a 6 d).toInt64) - (m_of (a 0 0) ((a 6 d).toInt64))) + (b 8 8))) (f := (b 1)) hx hb hK hP hD hS 1 1 rfl rfl rfl (by decide) (by decide) dX2_dayRuns_59 (fun H locs hP hD hS => ?_)
  have hP : va_P D vwCl (wM g q a (va_up (va_up b 1 (vp_updL (b 1) 0 ((b 1 0) + ((((a 6 d).toInt64) - (m_of (a 0 0) ((a 6 d).toInt64))) + (b 8 8))))) 8 (vp_updL (vp_updL (b 8) 0 ((b 8 0) + ((a 6 d).toInt64))) 1 ((b 8 1) + (m_of (a 0 0) ((a 6 d).toInt64)))))) H := hP
  have hD : va_D A (wM g q a (va_up (va_up b 1 (vp_updL (b 1) 0 ((b 1 0) + ((((a 6 d).toInt64) - (m_of (a 0 0) ((a 6 d).toInt64))) + (b 8 8))))) 8 (vp_updL (vp_updL (b 8) 0 ((b 8 0) + ((a 6 d).toInt64))) 1 ((b 8 1) + (m_of (a 0 0) ((a 6 d).toInt64)))))) := hD
  refine lv_aload_n hx hb dX2_dayRuns_60 rfl (lv_at hl 2 rfl) ?_
  refine va_get (D := D) (ci := 2) (v := .ref (q 8)) (C := RX2) (T := TX2) (N := 22) hx hb hts iw_X2 hown hK hP 0 rfl rfl 13 (by decide) (hts _ kf_X2_29) (fun _ h9 => h9) rfl dX2_dayRuns_61 ?_
  refine lv_bipush (v := 8) hx hb dX2_dayRuns_64 (by decide) ?_
  refine lv_lconst (v := 0) hx hb dX2_dayRuns_66 (by decide) ?_
  refine za_last (k := 8) (x := 0) (f := (vp_updL (vp_updL (b 8) 0 ((b 8 0) + ((a 6 d).toInt64))) 1 ((b 8 1) + (m_of (a 0 0) ((a 6 d).toInt64))))) hx hb hK hP hD hS 8 1 rfl rfl rfl (by decide) (by decide) dX2_dayRuns_67 (fun H locs hP hD hS => ?_)
  have hP : va_P D vwCl (wM g q a (va_up (va_up b 1 (vp_updL (b 1) 0 ((b 1 0) + ((((a 6 d).toInt64) - (m_of (a 0 0) ((a 6 d).toInt64))) + (b 8 8))))) 8 (vp_updL (vp_updL (vp_updL (b 8) 0 ((b 8 0) + ((a 6 d).toInt64))) 1 ((b 8 1) + (m_of (a 0 0) ((a 6 d).toInt64)))) 8 0))) H := hP
  have hD : va_D A (wM g q a (va_up (va_up b 1 (vp_updL (b 1) 0 ((b 1 0) + ((((a 6 d).toInt64) - (m_of (a 0 0) ((a 6 d).toInt64))) + (b 8 8))))) 8 (vp_updL (vp_updL (vp_updL (b 8) 0 ((b 8 0) + ((a 6 d).toInt64))) 1 ((b 8 1) + (m_of (a 0 0) ((a 6 d).toInt64)))) 8 0))) := hD
  refine lv_lconst (v := 0) hx hb dX2_dayRuns_68 (by decide) ?_
  refine lv_lstore (lv' := [(5, .long 0), (3, .long (m_of (a 0 0) ((a 6 d).toInt64))), (1, .long ((a 6 d).toInt64)), (0, .ref (q 0))]) hx hb dX2_dayRuns_69 hl (by decide) rfl (fun ls hl => ?_)
  refine lv_iconst (v := 0) hx hb dX2_dayRuns_71 (by decide) ?_
  refine lv_istore (lv' := [(7, .int 0), (5, .long 0), (3, .long (m_of (a 0 0) ((a 6 d).toInt64))), (1, .long ((a 6 d).toInt64)), (0, .ref (q 0))]) hx hb dX2_dayRuns_72 hl (by decide) rfl (fun ls hl => ?_)
  have hP : va_P D vwCl (wM g q a (r_in a b (a 6 d).toInt64)) H := hP
  have hD : va_D A (wM g q a (r_in a b (a 6 d).toInt64)) := hD
  have lp_74 : ∀ (t_74 i : Nat) , i + t_74 = n → ∀ (H : Heap) (locs : List Loc) (ls : Array Slot), va_P D vwCl (wM g q a (va_up (r_in a b (a 6 d).toInt64) 1 ((m_pd (a 2) (a 3) ((r_in a b (a 6 d).toInt64) 1) i).1))) H → va_D A (wM g q a (va_up (r_in a b (a 6 d).toInt64) 1 ((m_pd (a 2) (a 3) ((r_in a b (a 6 d).toInt64) 1) i).1))) → va_S A s.heap H locs → lv_has ls 11 [(7, .int (nI i)), (5, .long ((m_pd (a 2) (a 3) ((r_in a b (a 6 d).toInt64) 1) i).2)), (0, .ref (q 0))] → W p l e rm_M_dayRuns s m args below meth cd_ H locs 0 0 Q (F0 m 74 ls []) := by
    intro t_74
    induction t_74 with
    | zero =>
      intro i hi_74 H locs ls hP hD hS hl
      obtain rfl : n = i := by omega
      refine lv_iload hx hb dX2_dayRuns_74 (lv_at hl 0 rfl) ?_
      refine lv_aload_n hx hb dX2_dayRuns_76 rfl (lv_at hl 2 rfl) ?_
      refine va_get (D := D) (ci := 2) (v := .int (a 0 5)) (C := RX2) (T := TX2) (N := 22) hx hb hts iw_X2 hown hK hP 0 rfl rfl 0 (by decide) (hts _ kf_X2_59) (fun _ h9 => h9) rfl dX2_dayRuns_77 ?_
      rw [hly]
      refine lv_icmp_ge (tgt := 156) hx hb dX2_dayRuns_80 (by decide) (fun _ => ?_) (fun c_80 => absurd (nI_le (Nat.le_refl _) (by omega)) c_80)
      refine lv_aload_n hx hb dX2_dayRuns_156 rfl (lv_at hl 2 rfl) ?_
      refine va_get (D := D) (ci := 2) (v := .ref (q 8)) (C := RX2) (T := TX2) (N := 22) hx hb hts iw_X2 hown hK hP 0 rfl rfl 13 (by decide) (hts _ kf_X2_29) (fun _ h9 => h9) rfl dX2_dayRuns_157 ?_
      refine lv_iconst (v := 2) hx hb dX2_dayRuns_160 (by decide) ?_
      refine lv_dup2_11 hx hb dX2_dayRuns_161 rfl rfl ?_
      refine za_lald (k := 2) (f := ((r_in a b (a 6 d).toInt64) 8)) (v := (r_in a b (a 6 d).toInt64) 8 2) hx hb hK hP 8 1 rfl rfl rfl (by decide) (by decide) rfl dX2_dayRuns_162 ?_
      refine lv_lload hx hb dX2_dayRuns_163 (lv_at hl 1 rfl) ?_
      refine lv_ladd hx hb dX2_dayRuns_165 ?_
      refine za_last (k := 2) (x := ((r_in a b (a 6 d).toInt64) 8 2) + ((m_pd (a 2) (a 3) ((r_in a b (a 6 d).toInt64) 1) n).2)) (f := ((r_in a b (a 6 d).toInt64) 8)) hx hb hK hP hD hS 8 1 rfl rfl rfl (by decide) (by decide) dX2_dayRuns_166 (fun H locs hP hD hS => ?_)
      have hP : va_P D vwCl (wM g q a (va_up (va_up (r_in a b (a 6 d).toInt64) 1 ((m_pd (a 2) (a 3) ((r_in a b (a 6 d).toInt64) 1) n).1)) 8 (vp_updL ((r_in a b (a 6 d).toInt64) 8) 2 (((r_in a b (a 6 d).toInt64) 8 2) + ((m_pd (a 2) (a 3) ((r_in a b (a 6 d).toInt64) 1) n).2))))) H := hP
      have hD : va_D A (wM g q a (va_up (va_up (r_in a b (a 6 d).toInt64) 1 ((m_pd (a 2) (a 3) ((r_in a b (a 6 d).toInt64) 1) n).1)) 8 (vp_updL ((r_in a b (a 6 d).toInt64) 8) 2 (((r_in a b (a 6 d).toInt64) 8 2) + ((m_pd (a 2) (a 3) ((r_in a b (a 6 d).toInt64) 1) n).2))))) := hD
      refine lv_lload hx hb dX2_dayRuns_167 (lv_at hl 1 rfl) ?_
      refine lv_aload_n hx hb dX2_dayRuns_169 rfl (lv_at hl 2 rfl) ?_
      refine va_get (D := D) (ci := 2) (v := .int (a 0 1)) (C := RX2) (T := TX2) (N := 22) hx hb hts iw_X2 hown hK hP 0 rfl rfl 5 (by decide) (hts _ kf_X2_76) (fun _ h9 => h9) rfl dX2_dayRuns_170 ?_
      refine zk_pl (rest := []) C0 hP hD hS (c_M_partsOf l D (tyG g) ((m_pd (a 2) (a 3) ((r_in a b (a 6 d).toInt64) 1) n).2) (a 0 1)) kk_X2_103 hl.1 rfl rfl (Nat.le_of_ble_eq_true rfl) ⟨(Nat.le_of_ble_eq_true rfl), (Nat.le_of_ble_eq_true rfl)⟩ rfl rfl ⟨(Nat.le_of_ble_eq_true rfl), (Nat.le_of_ble_eq_true rfl)⟩ dX2_dayRuns_173 (fun r_173 H locs hw_173 hP hS => ?_)
      obtain rfl := hw_173
      refine lv_lstore (lv' := [(7, .long (m_of (a 0 1) ((m_pd (a 2) (a 3) ((r_in a b (a 6 d).toInt64) 1) n).2))), (5, .long ((m_pd (a 2) (a 3) ((r_in a b (a 6 d).toInt64) 1) n).2)), (0, .ref (q 0))]) hx hb dX2_dayRuns_176 hl (by decide) rfl (fun ls hl => ?_)
      refine lv_aload_n hx hb dX2_dayRuns_178 rfl (lv_at hl 2 rfl) ?_
      refine va_get (D := D) (ci := 2) (v := .ref (q 8)) (C := RX2) (T := TX2) (N := 22) hx hb hts iw_X2 hown hK hP 0 rfl rfl 13 (by decide) (hts _ kf_X2_29) (fun _ h9 => h9) rfl dX2_dayRuns_179 ?_
      refine lv_iconst (v := 3) hx hb dX2_dayRuns_182 (by decide) ?_
      refine lv_dup2_11 hx hb dX2_dayRuns_183 rfl rfl ?_
      refine za_lald (k := 3) (f := (vp_updL ((r_in a b (a 6 d).toInt64) 8) 2 (((r_in a b (a 6 d).toInt64) 8 2) + ((m_pd (a 2) (a 3) ((r_in a b (a 6 d).toInt64) 1) n).2)))) (v := (r_in a b (a 6 d).toInt64) 8 3) hx hb hK hP 8 1 rfl rfl rfl (by decide) (by decide) rfl dX2_dayRuns_184 ?_
      refine lv_lload hx hb dX2_dayRuns_185 (lv_at hl 1 rfl) ?_
      refine lv_lload hx hb dX2_dayRuns_187 (lv_at hl 0 rfl) ?_
      refine lv_lsub hx hb dX2_dayRuns_189 ?_
      refine lv_ladd hx hb dX2_dayRuns_190 ?_
      refine za_last (k := 3) (x := ((r_in a b (a 6 d).toInt64) 8 3) + (((m_pd (a 2) (a 3) ((r_in a b (a 6 d).toInt64) 1) n).2) - (m_of (a 0 1) ((m_pd (a 2) (a 3) ((r_in a b (a 6 d).toInt64) 1) n).2)))) (f := (vp_updL ((r_in a b (a 6 d).toInt64) 8) 2 (((r_in a b (a 6 d).toInt64) 8 2) + ((m_pd (a 2) (a 3) ((r_in a b (a 6 d).toInt64) 1) n).2)))) hx hb hK hP hD hS 8 1 rfl rfl rfl (by decide) (by decide) dX2_dayRuns_191 (fun H locs hP hD hS => ?_)
      have hP : va_P D vwCl (wM g q a (va_up (va_up (r_in a b (a 6 d).toInt64) 1 ((m_pd (a 2) (a 3) ((r_in a b (a 6 d).toInt64) 1) n).1)) 8 (vp_updL (vp_updL ((r_in a b (a 6 d).toInt64) 8) 2 (((r_in a b (a 6 d).toInt64) 8 2) + ((m_pd (a 2) (a 3) ((r_in a b (a 6 d).toInt64) 1) n).2))) 3 (((r_in a b (a 6 d).toInt64) 8 3) + (((m_pd (a 2) (a 3) ((r_in a b (a 6 d).toInt64) 1) n).2) - (m_of (a 0 1) ((m_pd (a 2) (a 3) ((r_in a b (a 6 d).toInt64) 1) n).2))))))) H := hP
      have hD : va_D A (wM g q a (va_up (va_up (r_in a b (a 6 d).toInt64) 1 ((m_pd (a 2) (a 3) ((r_in a b (a 6 d).toInt64) 1) n).1)) 8 (vp_updL (vp_updL ((r_in a b (a 6 d).toInt64) 8) 2 (((r_in a b (a 6 d).toInt64) 8 2) + ((m_pd (a 2) (a 3) ((r_in a b (a 6 d).toInt64) 1) n).2))) 3 (((r_in a b (a 6 d).toInt64) 8 3) + (((m_pd (a 2) (a 3) ((r_in a b (a 6 d).toInt64) 1) n).2) - (m_of (a 0 1) ((m_pd (a 2) (a 3) ((r_in a b (a 6 d).toInt64) 1) n).2))))))) := hD
      refine lv_aload_n hx hb dX2_dayRuns_192 rfl (lv_at hl 2 rfl) ?_
      refine va_get (D := D) (ci := 2) (v := .ref (q 8)) (C := RX2) (T := TX2) (N := 22) hx hb hts iw_X2 hown hK hP 0 rfl rfl 13 (by decide) (hts _ kf_X2_29) (fun _ h9 => h9) rfl dX2_dayRuns_193 ?_
      refine lv_bipush (v := 7) hx hb dX2_dayRuns_196 (by decide) ?_
      refine lv_dup2_11 hx hb dX2_dayRuns_198 rfl rfl ?_
      refine za_lald (k := 7) (f := (vp_updL (vp_updL ((r_in a b (a 6 d).toInt64) 8) 2 (((r_in a b (a 6 d).toInt64) 8 2) + ((m_pd (a 2) (a 3) ((r_in a b (a 6 d).toInt64) 1) n).2))) 3 (((r_in a b (a 6 d).toInt64) 8 3) + (((m_pd (a 2) (a 3) ((r_in a b (a 6 d).toInt64) 1) n).2) - (m_of (a 0 1) ((m_pd (a 2) (a 3) ((r_in a b (a 6 d).toInt64) 1) n).2)))))) (v := (r_in a b (a 6 d).toInt64) 8 7) hx hb hK hP 8 1 rfl rfl rfl (by decide) (by decide) rfl dX2_dayRuns_199 ?_
      refine lv_lload hx hb dX2_dayRuns_200 (lv_at hl 0 rfl) ?_
      refine lv_ladd hx hb dX2_dayRuns_202 ?_
      refine za_last (k := 7) (x := ((r_in a b (a 6 d).toInt64) 8 7) + (m_of (a 0 1) ((m_pd (a 2) (a 3) ((r_in a b (a 6 d).toInt64) 1) n).2))) (f := (vp_updL (vp_updL ((r_in a b (a 6 d).toInt64) 8) 2 (((r_in a b (a 6 d).toInt64) 8 2) + ((m_pd (a 2) (a 3) ((r_in a b (a 6 d).toInt64) 1) n).2))) 3 (((r_in a b (a 6 d).toInt64) 8 3) + (((m_pd (a 2) (a 3) ((r_in a b (a 6 d).toInt64) 1) n).2) - (m_of (a 0 1) ((m_pd (a 2) (a 3) ((r_in a b (a 6 d).toInt64) 1) n).2)))))) hx hb hK hP hD hS 8 1 rfl rfl rfl (by decide) (by decide) dX2_dayRuns_203 (fun H locs hP hD hS => ?_)
      have hP : va_P D vwCl (wM g q a (va_up (va_up (r_in a b (a 6 d).toInt64) 1 ((m_pd (a 2) (a 3) ((r_in a b (a 6 d).toInt64) 1) n).1)) 8 (vp_updL (vp_updL (vp_updL ((r_in a b (a 6 d).toInt64) 8) 2 (((r_in a b (a 6 d).toInt64) 8 2) + ((m_pd (a 2) (a 3) ((r_in a b (a 6 d).toInt64) 1) n).2))) 3 (((r_in a b (a 6 d).toInt64) 8 3) + (((m_pd (a 2) (a 3) ((r_in a b (a 6 d).toInt64) 1) n).2) - (m_of (a 0 1) ((m_pd (a 2) (a 3) ((r_in a b (a 6 d).toInt64) 1) n).2))))) 7 (((r_in a b (a 6 d).toInt64) 8 7) + (m_of (a 0 1) ((m_pd (a 2) (a 3) ((r_in a b (a 6 d).toInt64) 1) n).2)))))) H := hP
      have hD : va_D A (wM g q a (va_up (va_up (r_in a b (a 6 d).toInt64) 1 ((m_pd (a 2) (a 3) ((r_in a b (a 6 d).toInt64) 1) n).1)) 8 (vp_updL (vp_updL (vp_updL ((r_in a b (a 6 d).toInt64) 8) 2 (((r_in a b (a 6 d).toInt64) 8 2) + ((m_pd (a 2) (a 3) ((r_in a b (a 6 d).toInt64) 1) n).2))) 3 (((r_in a b (a 6 d).toInt64) 8 3) + (((m_pd (a 2) (a 3) ((r_in a b (a 6 d).toInt64) 1) n).2) - (m_of (a 0 1) ((m_pd (a 2) (a 3) ((r_in a b (a 6 d).toInt64) 1) n).2))))) 7 (((r_in a b (a 6 d).toInt64) 8 7) + (m_of (a 0 1) ((m_pd (a 2) (a 3) ((r_in a b (a 6 d).toInt64) 1) n).2)))))) := hD
      refine lv_aload_n hx hb dX2_dayRuns_204 rfl (lv_at hl 2 rfl) ?_
      refine va_get (D := D) (ci := 2) (v := .ref (q 8)) (C := RX2) (T := TX2) (N := 22) hx hb hts iw_X2 hown hK hP 0 rfl rfl 13 (by decide) (hts _ kf_X2_29) (fun _ h9 => h9) rfl dX2_dayRuns_205 ?_
      refine lv_bipush (v := 7) hx hb dX2_dayRuns_208 (by decide) ?_
      refine za_lald (k := 7) (f := (vp_updL (vp_updL (vp_updL ((r_in a b (a 6 d).toInt64) 8) 2 (((r_in a b (a 6 d).toInt64) 8 2) + ((m_pd (a 2) (a 3) ((r_in a b (a 6 d).toInt64) 1) n).2))) 3 (((r_in a b (a 6 d).toInt64) 8 3) + (((m_pd (a 2) (a 3) ((r_in a b (a 6 d).toInt64) 1) n).2) - (m_of (a 0 1) ((m_pd (a 2) (a 3) ((r_in a b (a 6 d).toInt64) 1) n).2))))) 7 (((r_in a b (a 6 d).toInt64) 8 7) + (m_of (a 0 1) ((m_pd (a 2) (a 3) ((r_in a b (a 6 d).toInt64) 1) n).2))))) (v := ((r_in a b (a 6 d).toInt64) 8 7) + (m_of (a 0 1) ((m_pd (a 2) (a 3) ((r_in a b (a 6 d).toInt64) 1) n).2))) hx hb hK hP 8 1 rfl rfl rfl (by decide) (by decide) rfl dX2_dayRuns_210 ?_
      refine lv_aload_n hx hb dX2_dayRuns_211 rfl (lv_at hl 2 rfl) ?_
      refine va_get (D := D) (ci := 2) (v := .long ((r_in a b (a 6 d).toInt64) 0 0)) (C := RX2) (T := TX2) (N := 22) hx hb hts iw_X2 hown hK hP 0 rfl rfl 7 (by decide) (hts _ kf_X2_84) (fun _ h9 => h9) rfl dX2_dayRuns_212 ?_
      refine zl_le (tgt := 234) hx hb dX2_dayRuns_215 dX2_dayRuns_216 (by decide) (fun c_215 => ?_) (fun c_215 => ?_)
      · -- jump at 215
        refine lv_lconst (v := 0) hx hb dX2_dayRuns_234 (by decide) ?_
        refine lv_topl (fun t9_1 et9_1 => ?_)
        obtain rfl : t9_1 = r_over ((r_in a b (a 6 d).toInt64) 8 7 + m_of (a 0 1) (m_pd (a 2) (a 3) ((r_in a b (a 6 d).toInt64) 1) n).2) ((r_in a b (a 6 d).toInt64) 0 0) := et9_1.trans (if_pos c_215).symm
        refine lv_lstore (lv' := [(9, .long (r_over ((r_in a b (a 6 d).toInt64) 8 7 + m_of (a 0 1) (m_pd (a 2) (a 3) ((r_in a b (a 6 d).toInt64) 1) n).2) ((r_in a b (a 6 d).toInt64) 0 0))), (7, .long (m_of (a 0 1) ((m_pd (a 2) (a 3) ((r_in a b (a 6 d).toInt64) 1) n).2))), (5, .long ((m_pd (a 2) (a 3) ((r_in a b (a 6 d).toInt64) 1) n).2)), (0, .ref (q 0))]) hx hb dX2_dayRuns_235 hl (by decide) rfl (fun ls hl => ?_)
        refine lv_aload_n hx hb dX2_dayRuns_237 rfl (lv_at hl 3 rfl) ?_
        refine va_get (D := D) (ci := 2) (v := .ref (q 8)) (C := RX2) (T := TX2) (N := 22) hx hb hts iw_X2 hown hK hP 0 rfl rfl 13 (by decide) (hts _ kf_X2_29) (fun _ h9 => h9) rfl dX2_dayRuns_238 ?_
        refine lv_iconst (v := 4) hx hb dX2_dayRuns_241 (by decide) ?_
        refine lv_dup2_11 hx hb dX2_dayRuns_242 rfl rfl ?_
        refine za_lald (k := 4) (f := (vp_updL (vp_updL (vp_updL ((r_in a b (a 6 d).toInt64) 8) 2 (((r_in a b (a 6 d).toInt64) 8 2) + ((m_pd (a 2) (a 3) ((r_in a b (a 6 d).toInt64) 1) n).2))) 3 (((r_in a b (a 6 d).toInt64) 8 3) + (((m_pd (a 2) (a 3) ((r_in a b (a 6 d).toInt64) 1) n).2) - (m_of (a 0 1) ((m_pd (a 2) (a 3) ((r_in a b (a 6 d).toInt64) 1) n).2))))) 7 (((r_in a b (a 6 d).toInt64) 8 7) + (m_of (a 0 1) ((m_pd (a 2) (a 3) ((r_in a b (a 6 d).toInt64) 1) n).2))))) (v := (r_in a b (a 6 d).toInt64) 8 4) hx hb hK hP 8 1 rfl rfl rfl (by decide) (by decide) rfl dX2_dayRuns_243 ?_
        refine lv_lload hx hb dX2_dayRuns_244 (lv_at hl 0 rfl) ?_
        refine lv_ladd hx hb dX2_dayRuns_246 ?_
        refine za_last (k := 4) (x := ((r_in a b (a 6 d).toInt64) 8 4) + (r_over ((r_in a b (a 6 d).toInt64) 8 7 + m_of (a 0 1) (m_pd (a 2) (a 3) ((r_in a b (a 6 d).toInt64) 1) n).2) ((r_in a b (a 6 d).toInt64) 0 0))) (f := (vp_updL (vp_updL (vp_updL ((r_in a b (a 6 d).toInt64) 8) 2 (((r_in a b (a 6 d).toInt64) 8 2) + ((m_pd (a 2) (a 3) ((r_in a b (a 6 d).toInt64) 1) n).2))) 3 (((r_in a b (a 6 d).toInt64) 8 3) + (((m_pd (a 2) (a 3) ((r_in a b (a 6 d).toInt64) 1) n).2) - (m_of (a 0 1) ((m_pd (a 2) (a 3) ((r_in a b (a 6 d).toInt64) 1) n).2))))) 7 (((r_in a b (a 6 d).toInt64) 8 7) + (m_of (a 0 1) ((m_pd (a 2) (a 3) ((r_in a b (a 6 d).toInt64) 1) n).2))))) hx hb hK hP hD hS 8 1 rfl rfl rfl (by decide) (by decide) dX2_dayRuns_247 (fun H locs hP hD hS => ?_)
        have hP : va_P D vwCl (wM g q a (va_up (va_up (r_in a b (a 6 d).toInt64) 1 ((m_pd (a 2) (a 3) ((r_in a b (a 6 d).toInt64) 1) n).1)) 8 (vp_updL (vp_updL (vp_updL (vp_updL ((r_in a b (a 6 d).toInt64) 8) 2 (((r_in a b (a 6 d).toInt64) 8 2) + ((m_pd (a 2) (a 3) ((r_in a b (a 6 d).toInt64) 1) n).2))) 3 (((r_in a b (a 6 d).toInt64) 8 3) + (((m_pd (a 2) (a 3) ((r_in a b (a 6 d).toInt64) 1) n).2) - (m_of (a 0 1) ((m_pd (a 2) (a 3) ((r_in a b (a 6 d).toInt64) 1) n).2))))) 7 (((r_in a b (a 6 d).toInt64) 8 7) + (m_of (a 0 1) ((m_pd (a 2) (a 3) ((r_in a b (a 6 d).toInt64) 1) n).2)))) 4 (((r_in a b (a 6 d).toInt64) 8 4) + (r_over ((r_in a b (a 6 d).toInt64) 8 7 + m_of (a 0 1) (m_pd (a 2) (a 3) ((r_in a b (a 6 d).toInt64) 1) n).2) ((r_in a b (a 6 d).toInt64) 0 0)))))) H := hP
        have hD : va_D A (wM g q a (va_up (va_up (r_in a b (a 6 d).toInt64) 1 ((m_pd (a 2) (a 3) ((r_in a b (a 6 d).toInt64) 1) n).1)) 8 (vp_updL (vp_updL (vp_updL (vp_updL ((r_in a b (a 6 d).toInt64) 8) 2 (((r_in a b (a 6 d).toInt64) 8 2) + ((m_pd (a 2) (a 3) ((r_in a b (a 6 d).toInt64) 1) n).2))) 3 (((r_in a b (a 6 d).toInt64) 8 3) + (((m_pd (a 2) (a 3) ((r_in a b (a 6 d).toInt64) 1) n).2) - (m_of (a 0 1) ((m_pd (a 2) (a 3) ((r_in a b (a 6 d).toInt64) 1) n).2))))) 7 (((r_in a b (a 6 d).toInt64) 8 7) + (m_of (a 0 1) ((m_pd (a 2) (a 3) ((r_in a b (a 6 d).toInt64) 1) n).2)))) 4 (((r_in a b (a 6 d).toInt64) 8 4) + (r_over ((r_in a b (a 6 d).toInt64) 8 7 + m_of (a 0 1) (m_pd (a 2) (a 3) ((r_in a b (a 6 d).toInt64) 1) n).2) ((r_in a b (a 6 d).toInt64) 0 0)))))) := hD
        refine lv_aload_n hx hb dX2_dayRuns_248 rfl (lv_at hl 3 rfl) ?_
        refine va_get (D := D) (ci := 2) (v := .ref (q 8)) (C := RX2) (T := TX2) (N := 22) hx hb hts iw_X2 hown hK hP 0 rfl rfl 13 (by decide) (hts _ kf_X2_29) (fun _ h9 => h9) rfl dX2_dayRuns_249 ?_
        refine lv_bipush (v := 7) hx hb dX2_dayRuns_252 (by decide) ?_
        refine lv_dup2_11 hx hb dX2_dayRuns_254 rfl rfl ?_
        refine za_lald (k := 7) (f := (vp_updL (vp_updL (vp_updL (vp_updL ((r_in a b (a 6 d).toInt64) 8) 2 (((r_in a b (a 6 d).toInt64) 8 2) + ((m_pd (a 2) (a 3) ((r_in a b (a 6 d).toInt64) 1) n).2))) 3 (((r_in a b (a 6 d).toInt64) 8 3) + (((m_pd (a 2) (a 3) ((r_in a b (a 6 d).toInt64) 1) n).2) - (m_of (a 0 1) ((m_pd (a 2) (a 3) ((r_in a b (a 6 d).toInt64) 1) n).2))))) 7 (((r_in a b (a 6 d).toInt64) 8 7) + (m_of (a 0 1) ((m_pd (a 2) (a 3) ((r_in a b (a 6 d).toInt64) 1) n).2)))) 4 (((r_in a b (a 6 d).toInt64) 8 4) + (r_over ((r_in a b (a 6 d).toInt64) 8 7 + m_of (a 0 1) (m_pd (a 2) (a 3) ((r_in a b (a 6 d).toInt64) 1) n).2) ((r_in a b (a 6 d).toInt64) 0 0))))) (v := ((r_in a b (a 6 d).toInt64) 8 7) + (m_of (a 0 1) ((m_pd (a 2) (a 3) ((r_in a b (a 6 d).toInt64) 1) n).2))) hx hb hK hP 8 1 rfl rfl rfl (by decide) (by decide) rfl dX2_dayRuns_255 ?_
        refine lv_lload hx hb dX2_dayRuns_256 (lv_at hl 0 rfl) ?_
        refine lv_lsub hx hb dX2_dayRuns_258 ?_
        refine za_last (k := 7) (x := (((r_in a b (a 6 d).toInt64) 8 7) + (m_of (a 0 1) ((m_pd (a 2) (a 3) ((r_in a b (a 6 d).toInt64) 1) n).2))) - (r_over ((r_in a b (a 6 d).toInt64) 8 7 + m_of (a 0 1) (m_pd (a 2) (a 3) ((r_in a b (a 6 d).toInt64) 1) n).2) ((r_in a b (a 6 d).toInt64) 0 0))) (f := (vp_updL (vp_updL (vp_updL (vp_updL ((r_in a b (a 6 d).toInt64) 8) 2 (((r_in a b (a 6 d).toInt64) 8 2) + ((m_pd (a 2) (a 3) ((r_in a b (a 6 d).toInt64) 1) n).2))) 3 (((r_in a b (a 6 d).toInt64) 8 3) + (((m_pd (a 2) (a 3) ((r_in a b (a 6 d).toInt64) 1) n).2) - (m_of (a 0 1) ((m_pd (a 2) (a 3) ((r_in a b (a 6 d).toInt64) 1) n).2))))) 7 (((r_in a b (a 6 d).toInt64) 8 7) + (m_of (a 0 1) ((m_pd (a 2) (a 3) ((r_in a b (a 6 d).toInt64) 1) n).2)))) 4 (((r_in a b (a 6 d).toInt64) 8 4) + (r_over ((r_in a b (a 6 d).toInt64) 8 7 + m_of (a 0 1) (m_pd (a 2) (a 3) ((r_in a b (a 6 d).toInt64) 1) n).2) ((r_in a b (a 6 d).toInt64) 0 0))))) hx hb hK hP hD hS 8 1 rfl rfl rfl (by decide) (by decide) dX2_dayRuns_259 (fun H locs hP hD hS => ?_)
        have hP : va_P D vwCl (wM g q a (va_up (va_up (r_in a b (a 6 d).toInt64) 1 ((m_pd (a 2) (a 3) ((r_in a b (a 6 d).toInt64) 1) n).1)) 8 (vp_updL (vp_updL (vp_updL (vp_updL (vp_updL ((r_in a b (a 6 d).toInt64) 8) 2 (((r_in a b (a 6 d).toInt64) 8 2) + ((m_pd (a 2) (a 3) ((r_in a b (a 6 d).toInt64) 1) n).2))) 3 (((r_in a b (a 6 d).toInt64) 8 3) + (((m_pd (a 2) (a 3) ((r_in a b (a 6 d).toInt64) 1) n).2) - (m_of (a 0 1) ((m_pd (a 2) (a 3) ((r_in a b (a 6 d).toInt64) 1) n).2))))) 7 (((r_in a b (a 6 d).toInt64) 8 7) + (m_of (a 0 1) ((m_pd (a 2) (a 3) ((r_in a b (a 6 d).toInt64) 1) n).2)))) 4 (((r_in a b (a 6 d).toInt64) 8 4) + (r_over ((r_in a b (a 6 d).toInt64) 8 7 + m_of (a 0 1) (m_pd (a 2) (a 3) ((r_in a b (a 6 d).toInt64) 1) n).2) ((r_in a b (a 6 d).toInt64) 0 0)))) 7 ((((r_in a b (a 6 d).toInt64) 8 7) + (m_of (a 0 1) ((m_pd (a 2) (a 3) ((r_in a b (a 6 d).toInt64) 1) n).2))) - (r_over ((r_in a b (a 6 d).toInt64) 8 7 + m_of (a 0 1) (m_pd (a 2) (a 3) ((r_in a b (a 6 d).toInt64) 1) n).2) ((r_in a b (a 6 d).toInt64) 0 0)))))) H := hP
        have hD : va_D A (wM g q a (va_up (va_up (r_in a b (a 6 d).toInt64) 1 ((m_pd (a 2) (a 3) ((r_in a b (a 6 d).toInt64) 1) n).1)) 8 (vp_updL (vp_updL (vp_updL (vp_updL (vp_updL ((r_in a b (a 6 d).toInt64) 8) 2 (((r_in a b (a 6 d).toInt64) 8 2) + ((m_pd (a 2) (a 3) ((r_in a b (a 6 d).toInt64) 1) n).2))) 3 (((r_in a b (a 6 d).toInt64) 8 3) + (((m_pd (a 2) (a 3) ((r_in a b (a 6 d).toInt64) 1) n).2) - (m_of (a 0 1) ((m_pd (a 2) (a 3) ((r_in a b (a 6 d).toInt64) 1) n).2))))) 7 (((r_in a b (a 6 d).toInt64) 8 7) + (m_of (a 0 1) ((m_pd (a 2) (a 3) ((r_in a b (a 6 d).toInt64) 1) n).2)))) 4 (((r_in a b (a 6 d).toInt64) 8 4) + (r_over ((r_in a b (a 6 d).toInt64) 8 7 + m_of (a 0 1) (m_pd (a 2) (a 3) ((r_in a b (a 6 d).toInt64) 1) n).2) ((r_in a b (a 6 d).toInt64) 0 0)))) 7 ((((r_in a b (a 6 d).toInt64) 8 7) + (m_of (a 0 1) ((m_pd (a 2) (a 3) ((r_in a b (a 6 d).toInt64) 1) n).2))) - (r_over ((r_in a b (a 6 d).toInt64) 8 7 + m_of (a 0 1) (m_pd (a 2) (a 3) ((r_in a b (a 6 d).toInt64) 1) n).2) ((r_in a b (a 6 d).toInt64) 0 0)))))) := hD
        refine lv_aload_n hx hb dX2_dayRuns_260 rfl (lv_at hl 3 rfl) ?_
        refine va_get (D := D) (ci := 2) (v := .ref (q 7)) (C := RX2) (T := TX2) (N := 22) hx hb hts iw_X2 hown hK hP 0 rfl rfl 14 (by decide) (hts _ kf_X2_32) (fun _ h9 => h9) rfl dX2_dayRuns_261 ?_
        refine lv_aload_n hx hb dX2_dayRuns_264 rfl (lv_at hl 3 rfl) ?_
        refine va_get (D := D) (ci := 2) (v := .int (a 0 4)) (C := RX2) (T := TX2) (N := 22) hx hb hts iw_X2 hown hK hP 0 rfl rfl 12 (by decide) (hts _ kf_X2_90) (fun _ h9 => h9) rfl dX2_dayRuns_265 ?_
        rw [hd]
        refine lv_lconst (v := 0) hx hb dX2_dayRuns_268 (by decide) ?_
        refine za_last (k := d) (x := 0) (f := ((r_in a b (a 6 d).toInt64) 7)) hx hb hK hP hD hS 7 1 rfl rfl rfl (by omega) (by decide) dX2_dayRuns_269 (fun H locs hP hD hS => ?_)
        have hP : va_P D vwCl (wM g q a (va_up (va_up (va_up (r_in a b (a 6 d).toInt64) 1 ((m_pd (a 2) (a 3) ((r_in a b (a 6 d).toInt64) 1) n).1)) 7 (vp_updL ((r_in a b (a 6 d).toInt64) 7) d 0)) 8 (vp_updL (vp_updL (vp_updL (vp_updL (vp_updL ((r_in a b (a 6 d).toInt64) 8) 2 (((r_in a b (a 6 d).toInt64) 8 2) + ((m_pd (a 2) (a 3) ((r_in a b (a 6 d).toInt64) 1) n).2))) 3 (((r_in a b (a 6 d).toInt64) 8 3) + (((m_pd (a 2) (a 3) ((r_in a b (a 6 d).toInt64) 1) n).2) - (m_of (a 0 1) ((m_pd (a 2) (a 3) ((r_in a b (a 6 d).toInt64) 1) n).2))))) 7 (((r_in a b (a 6 d).toInt64) 8 7) + (m_of (a 0 1) ((m_pd (a 2) (a 3) ((r_in a b (a 6 d).toInt64) 1) n).2)))) 4 (((r_in a b (a 6 d).toInt64) 8 4) + (r_over ((r_in a b (a 6 d).toInt64) 8 7 + m_of (a 0 1) (m_pd (a 2) (a 3) ((r_in a b (a 6 d).toInt64) 1) n).2) ((r_in a b (a 6 d).toInt64) 0 0)))) 7 ((((r_in a b (a 6 d).toInt64) 8 7) + (m_of (a 0 1) ((m_pd (a 2) (a 3) ((r_in a b (a 6 d).toInt64) 1) n).2))) - (r_over ((r_in a b (a 6 d).toInt64) 8 7 + m_of (a 0 1) (m_pd (a 2) (a 3) ((r_in a b (a 6 d).toInt64) 1) n).2) ((r_in a b (a 6 d).toInt64) 0 0)))))) H := hP
        have hD : va_D A (wM g q a (va_up (va_up (va_up (r_in a b (a 6 d).toInt64) 1 ((m_pd (a 2) (a 3) ((r_in a b (a 6 d).toInt64) 1) n).1)) 7 (vp_updL ((r_in a b (a 6 d).toInt64) 7) d 0)) 8 (vp_updL (vp_updL (vp_updL (vp_updL (vp_updL ((r_in a b (a 6 d).toInt64) 8) 2 (((r_in a b (a 6 d).toInt64) 8 2) + ((m_pd (a 2) (a 3) ((r_in a b (a 6 d).toInt64) 1) n).2))) 3 (((r_in a b (a 6 d).toInt64) 8 3) + (((m_pd (a 2) (a 3) ((r_in a b (a 6 d).toInt64) 1) n).2) - (m_of (a 0 1) ((m_pd (a 2) (a 3) ((r_in a b (a 6 d).toInt64) 1) n).2))))) 7 (((r_in a b (a 6 d).toInt64) 8 7) + (m_of (a 0 1) ((m_pd (a 2) (a 3) ((r_in a b (a 6 d).toInt64) 1) n).2)))) 4 (((r_in a b (a 6 d).toInt64) 8 4) + (r_over ((r_in a b (a 6 d).toInt64) 8 7 + m_of (a 0 1) (m_pd (a 2) (a 3) ((r_in a b (a 6 d).toInt64) 1) n).2) ((r_in a b (a 6 d).toInt64) 0 0)))) 7 ((((r_in a b (a 6 d).toInt64) 8 7) + (m_of (a 0 1) ((m_pd (a 2) (a 3) ((r_in a b (a 6 d).toInt64) 1) n).2))) - (r_over ((r_in a b (a 6 d).toInt64) 8 7 + m_of (a 0 1) (m_pd (a 2) (a 3) ((r_in a b (a 6 d).toInt64) 1) n).2) ((r_in a b (a 6 d).toInt64) 0 0)))))) := hD
        refine lv_aload_n hx hb dX2_dayRuns_270 rfl (lv_at hl 3 rfl) ?_
        refine zf_vv (rest := []) C0 hP hD hS (c_M_stagesRun l D g q a (va_up (va_up (va_up (r_in a b (a 6 d).toInt64) 1 ((m_pd (a 2) (a 3) ((r_in a b (a 6 d).toInt64) 1) n).1)) 7 (vp_updL ((r_in a b (a 6 d).toInt64) 7) d 0)) 8 (vp_updL (vp_updL (vp_updL (vp_updL (vp_updL ((r_in a b (a 6 d).toInt64) 8) 2 (((r_in a b (a 6 d).toInt64) 8 2) + ((m_pd (a 2) (a 3) ((r_in a b (a 6 d).toInt64) 1) n).2))) 3 (((r_in a b (a 6 d).toInt64) 8 3) + (((m_pd (a 2) (a 3) ((r_in a b (a 6 d).toInt64) 1) n).2) - (m_of (a 0 1) ((m_pd (a 2) (a 3) ((r_in a b (a 6 d).toInt64) 1) n).2))))) 7 (((r_in a b (a 6 d).toInt64) 8 7) + (m_of (a 0 1) ((m_pd (a 2) (a 3) ((r_in a b (a 6 d).toInt64) 1) n).2)))) 4 (((r_in a b (a 6 d).toInt64) 8 4) + (r_over ((r_in a b (a 6 d).toInt64) 8 7 + m_of (a 0 1) (m_pd (a 2) (a 3) ((r_in a b (a 6 d).toInt64) 1) n).2) ((r_in a b (a 6 d).toInt64) 0 0)))) 7 ((((r_in a b (a 6 d).toInt64) 8 7) + (m_of (a 0 1) ((m_pd (a 2) (a 3) ((r_in a b (a 6 d).toInt64) 1) n).2))) - (r_over ((r_in a b (a 6 d).toInt64) 8 7 + m_of (a 0 1) (m_pd (a 2) (a 3) ((r_in a b (a 6 d).toInt64) 1) n).2) ((r_in a b (a 6 d).toInt64) 0 0))))) sc hsc hsc4 d hd hd4) kk_X2_107 kv_X2_107 2 rfl 0 rfl hl.1 rfl rfl (Nat.le_of_ble_eq_true rfl) ⟨(Nat.le_of_ble_eq_true rfl), (Nat.le_of_ble_eq_true rfl)⟩ rfl rfl ⟨(Nat.le_of_ble_eq_true rfl), (Nat.le_of_ble_eq_true rfl)⟩ dX2_dayRuns_271 (fun u_271 H locs hw_271 hP hD hS => ?_)
        refine lv_aload_n hx hb dX2_dayRuns_274 rfl (lv_at hl 3 rfl) ?_
        refine lv_dup hx hb dX2_dayRuns_275 rfl ?_
        refine va_get (D := D) (ci := 2) (v := .int (a 0 4)) (C := RX2) (T := TX2) (N := 22) hx hb hts iw_X2 hown hK hP 0 rfl rfl 12 (by decide) (hts _ kf_X2_90) (fun _ h9 => h9) rfl dX2_dayRuns_276 ?_
        rw [hd]
        refine lv_iconst (v := 1) hx hb dX2_dayRuns_279 (by decide) ?_
        refine lv_iadd hx hb dX2_dayRuns_280 ?_
        rw [show (nI d) + 1 = nI (d + 1) from nI_1 d]
        refine va_put (D := D) (ci := 2) (v := .int (nI (d + 1))) (ty := .int) (C := RX2) (T := TX2) (N := 22) hx hb hts iw_X2 tyX2 tyok_X2 nm_X2 hown hK hP hD hS 0 rfl rfl 12 (by decide) (hts _ kf_X2_90) (fun _ h9 => h9) rfl (by decide +kernel) rfl rfl (Nat.le_of_ble_eq_true rfl) dX2_dayRuns_281 (fun H locs hP hD hS => ?_)
        have hP : va_P D vwCl (wM g q (va_up a 0 (upd (a 0) 4 (nI (d + 1)))) u_271) H := hP
        have hD : va_D A (wM g q (va_up a 0 (upd (a 0) 4 (nI (d + 1)))) u_271) := hD
        exact hret u_271 _ _ _ _ _ _ (hw_271.trans rfl) hP hD hS (Nat.le_of_ble_eq_true rfl) (Nat.le_of_ble_eq_true rfl) dX2_dayRuns_284
      · -- on at 215
        refine lv_aload_n hx hb dX2_dayRuns_219 rfl (lv_at hl 2 rfl) ?_
        refine va_get (D := D) (ci := 2) (v := .ref (q 8)) (C := RX2) (T := TX2) (N := 22) hx hb hts iw_X2 hown hK hP 0 rfl rfl 13 (by decide) (hts _ kf_X2_29) (fun _ h9 => h9) rfl dX2_dayRuns_220 ?_
        refine lv_bipush (v := 7) hx hb dX2_dayRuns_223 (by decide) ?_
        refine za_lald (k := 7) (f := (vp_updL (vp_updL (vp_updL ((r_in a b (a 6 d).toInt64) 8) 2 (((r_in a b (a 6 d).toInt64) 8 2) + ((m_pd (a 2) (a 3) ((r_in a b (a 6 d).toInt64) 1) n).2))) 3 (((r_in a b (a 6 d).toInt64) 8 3) + (((m_pd (a 2) (a 3) ((r_in a b (a 6 d).toInt64) 1) n).2) - (m_of (a 0 1) ((m_pd (a 2) (a 3) ((r_in a b (a 6 d).toInt64) 1) n).2))))) 7 (((r_in a b (a 6 d).toInt64) 8 7) + (m_of (a 0 1) ((m_pd (a 2) (a 3) ((r_in a b (a 6 d).toInt64) 1) n).2))))) (v := ((r_in a b (a 6 d).toInt64) 8 7) + (m_of (a 0 1) ((m_pd (a 2) (a 3) ((r_in a b (a 6 d).toInt64) 1) n).2))) hx hb hK hP 8 1 rfl rfl rfl (by decide) (by decide) rfl dX2_dayRuns_225 ?_
        refine lv_aload_n hx hb dX2_dayRuns_226 rfl (lv_at hl 2 rfl) ?_
        refine va_get (D := D) (ci := 2) (v := .long ((r_in a b (a 6 d).toInt64) 0 0)) (C := RX2) (T := TX2) (N := 22) hx hb hts iw_X2 hown hK hP 0 rfl rfl 7 (by decide) (hts _ kf_X2_84) (fun _ h9 => h9) rfl dX2_dayRuns_227 ?_
        refine lv_lsub hx hb dX2_dayRuns_230 ?_
        refine lv_goto (tgt := 235) hx hb dX2_dayRuns_231 (by decide) ?_
        refine lv_topl (fun t9_2 et9_2 => ?_)
        obtain rfl : t9_2 = r_over ((r_in a b (a 6 d).toInt64) 8 7 + m_of (a 0 1) (m_pd (a 2) (a 3) ((r_in a b (a 6 d).toInt64) 1) n).2) ((r_in a b (a 6 d).toInt64) 0 0) := et9_2.trans (if_neg c_215).symm
        refine lv_lstore (lv' := [(9, .long (r_over ((r_in a b (a 6 d).toInt64) 8 7 + m_of (a 0 1) (m_pd (a 2) (a 3) ((r_in a b (a 6 d).toInt64) 1) n).2) ((r_in a b (a 6 d).toInt64) 0 0))), (7, .long (m_of (a 0 1) ((m_pd (a 2) (a 3) ((r_in a b (a 6 d).toInt64) 1) n).2))), (5, .long ((m_pd (a 2) (a 3) ((r_in a b (a 6 d).toInt64) 1) n).2)), (0, .ref (q 0))]) hx hb dX2_dayRuns_235 hl (by decide) rfl (fun ls hl => ?_)
        refine lv_aload_n hx hb dX2_dayRuns_237 rfl (lv_at hl 3 rfl) ?_
        refine va_get (D := D) (ci := 2) (v := .ref (q 8)) (C := RX2) (T := TX2) (N := 22) hx hb hts iw_X2 hown hK hP 0 rfl rfl 13 (by decide) (hts _ kf_X2_29) (fun _ h9 => h9) rfl dX2_dayRuns_238 ?_
        refine lv_iconst (v := 4) hx hb dX2_dayRuns_241 (by decide) ?_
        refine lv_dup2_11 hx hb dX2_dayRuns_242 rfl rfl ?_
        refine za_lald (k := 4) (f := (vp_updL (vp_updL (vp_updL ((r_in a b (a 6 d).toInt64) 8) 2 (((r_in a b (a 6 d).toInt64) 8 2) + ((m_pd (a 2) (a 3) ((r_in a b (a 6 d).toInt64) 1) n).2))) 3 (((r_in a b (a 6 d).toInt64) 8 3) + (((m_pd (a 2) (a 3) ((r_in a b (a 6 d).toInt64) 1) n).2) - (m_of (a 0 1) ((m_pd (a 2) (a 3) ((r_in a b (a 6 d).toInt64) 1) n).2))))) 7 (((r_in a b (a 6 d).toInt64) 8 7) + (m_of (a 0 1) ((m_pd (a 2) (a 3) ((r_in a b (a 6 d).toInt64) 1) n).2))))) (v := (r_in a b (a 6 d).toInt64) 8 4) hx hb hK hP 8 1 rfl rfl rfl (by decide) (by decide) rfl dX2_dayRuns_243 ?_
        refine lv_lload hx hb dX2_dayRuns_244 (lv_at hl 0 rfl) ?_
        refine lv_ladd hx hb dX2_dayRuns_246 ?_
        refine za_last (k := 4) (x := ((r_in a b (a 6 d).toInt64) 8 4) + (r_over ((r_in a b (a 6 d).toInt64) 8 7 + m_of (a 0 1) (m_pd (a 2) (a 3) ((r_in a b (a 6 d).toInt64) 1) n).2) ((r_in a b (a 6 d).toInt64) 0 0))) (f := (vp_updL (vp_updL (vp_updL ((r_in a b (a 6 d).toInt64) 8) 2 (((r_in a b (a 6 d).toInt64) 8 2) + ((m_pd (a 2) (a 3) ((r_in a b (a 6 d).toInt64) 1) n).2))) 3 (((r_in a b (a 6 d).toInt64) 8 3) + (((m_pd (a 2) (a 3) ((r_in a b (a 6 d).toInt64) 1) n).2) - (m_of (a 0 1) ((m_pd (a 2) (a 3) ((r_in a b (a 6 d).toInt64) 1) n).2))))) 7 (((r_in a b (a 6 d).toInt64) 8 7) + (m_of (a 0 1) ((m_pd (a 2) (a 3) ((r_in a b (a 6 d).toInt64) 1) n).2))))) hx hb hK hP hD hS 8 1 rfl rfl rfl (by decide) (by decide) dX2_dayRuns_247 (fun H locs hP hD hS => ?_)
        have hP : va_P D vwCl (wM g q a (va_up (va_up (r_in a b (a 6 d).toInt64) 1 ((m_pd (a 2) (a 3) ((r_in a b (a 6 d).toInt64) 1) n).1)) 8 (vp_updL (vp_updL (vp_updL (vp_updL ((r_in a b (a 6 d).toInt64) 8) 2 (((r_in a b (a 6 d).toInt64) 8 2) + ((m_pd (a 2) (a 3) ((r_in a b (a 6 d).toInt64) 1) n).2))) 3 (((r_in a b (a 6 d).toInt64) 8 3) + (((m_pd (a 2) (a 3) ((r_in a b (a 6 d).toInt64) 1) n).2) - (m_of (a 0 1) ((m_pd (a 2) (a 3) ((r_in a b (a 6 d).toInt64) 1) n).2))))) 7 (((r_in a b (a 6 d).toInt64) 8 7) + (m_of (a 0 1) ((m_pd (a 2) (a 3) ((r_in a b (a 6 d).toInt64) 1) n).2)))) 4 (((r_in a b (a 6 d).toInt64) 8 4) + (r_over ((r_in a b (a 6 d).toInt64) 8 7 + m_of (a 0 1) (m_pd (a 2) (a 3) ((r_in a b (a 6 d).toInt64) 1) n).2) ((r_in a b (a 6 d).toInt64) 0 0)))))) H := hP
        have hD : va_D A (wM g q a (va_up (va_up (r_in a b (a 6 d).toInt64) 1 ((m_pd (a 2) (a 3) ((r_in a b (a 6 d).toInt64) 1) n).1)) 8 (vp_updL (vp_updL (vp_updL (vp_updL ((r_in a b (a 6 d).toInt64) 8) 2 (((r_in a b (a 6 d).toInt64) 8 2) + ((m_pd (a 2) (a 3) ((r_in a b (a 6 d).toInt64) 1) n).2))) 3 (((r_in a b (a 6 d).toInt64) 8 3) + (((m_pd (a 2) (a 3) ((r_in a b (a 6 d).toInt64) 1) n).2) - (m_of (a 0 1) ((m_pd (a 2) (a 3) ((r_in a b (a 6 d).toInt64) 1) n).2))))) 7 (((r_in a b (a 6 d).toInt64) 8 7) + (m_of (a 0 1) ((m_pd (a 2) (a 3) ((r_in a b (a 6 d).toInt64) 1) n).2)))) 4 (((r_in a b (a 6 d).toInt64) 8 4) + (r_over ((r_in a b (a 6 d).toInt64) 8 7 + m_of (a 0 1) (m_pd (a 2) (a 3) ((r_in a b (a 6 d).toInt64) 1) n).2) ((r_in a b (a 6 d).toInt64) 0 0)))))) := hD
        refine lv_aload_n hx hb dX2_dayRuns_248 rfl (lv_at hl 3 rfl) ?_
        refine va_get (D := D) (ci := 2) (v := .ref (q 8)) (C := RX2) (T := TX2) (N := 22) hx hb hts iw_X2 hown hK hP 0 rfl rfl 13 (by decide) (hts _ kf_X2_29) (fun _ h9 => h9) rfl dX2_dayRuns_249 ?_
        refine lv_bipush (v := 7) hx hb dX2_dayRuns_252 (by decide) ?_
        refine lv_dup2_11 hx hb dX2_dayRuns_254 rfl rfl ?_
        refine za_lald (k := 7) (f := (vp_updL (vp_updL (vp_updL (vp_updL ((r_in a b (a 6 d).toInt64) 8) 2 (((r_in a b (a 6 d).toInt64) 8 2) + ((m_pd (a 2) (a 3) ((r_in a b (a 6 d).toInt64) 1) n).2))) 3 (((r_in a b (a 6 d).toInt64) 8 3) + (((m_pd (a 2) (a 3) ((r_in a b (a 6 d).toInt64) 1) n).2) - (m_of (a 0 1) ((m_pd (a 2) (a 3) ((r_in a b (a 6 d).toInt64) 1) n).2))))) 7 (((r_in a b (a 6 d).toInt64) 8 7) + (m_of (a 0 1) ((m_pd (a 2) (a 3) ((r_in a b (a 6 d).toInt64) 1) n).2)))) 4 (((r_in a b (a 6 d).toInt64) 8 4) + (r_over ((r_in a b (a 6 d).toInt64) 8 7 + m_of (a 0 1) (m_pd (a 2) (a 3) ((r_in a b (a 6 d).toInt64) 1) n).2) ((r_in a b (a 6 d).toInt64) 0 0))))) (v := ((r_in a b (a 6 d).toInt64) 8 7) + (m_of (a 0 1) ((m_pd (a 2) (a 3) ((r_in a b (a 6 d).toInt64) 1) n).2))) hx hb hK hP 8 1 rfl rfl rfl (by decide) (by decide) rfl dX2_dayRuns_255 ?_
        refine lv_lload hx hb dX2_dayRuns_256 (lv_at hl 0 rfl) ?_
        refine lv_lsub hx hb dX2_dayRuns_258 ?_
        refine za_last (k := 7) (x := (((r_in a b (a 6 d).toInt64) 8 7) + (m_of (a 0 1) ((m_pd (a 2) (a 3) ((r_in a b (a 6 d).toInt64) 1) n).2))) - (r_over ((r_in a b (a 6 d).toInt64) 8 7 + m_of (a 0 1) (m_pd (a 2) (a 3) ((r_in a b (a 6 d).toInt64) 1) n).2) ((r_in a b (a 6 d).toInt64) 0 0))) (f := (vp_updL (vp_updL (vp_updL (vp_updL ((r_in a b (a 6 d).toInt64) 8) 2 (((r_in a b (a 6 d).toInt64) 8 2) + ((m_pd (a 2) (a 3) ((r_in a b (a 6 d).toInt64) 1) n).2))) 3 (((r_in a b (a 6 d).toInt64) 8 3) + (((m_pd (a 2) (a 3) ((r_in a b (a 6 d).toInt64) 1) n).2) - (m_of (a 0 1) ((m_pd (a 2) (a 3) ((r_in a b (a 6 d).toInt64) 1) n).2))))) 7 (((r_in a b (a 6 d).toInt64) 8 7) + (m_of (a 0 1) ((m_pd (a 2) (a 3) ((r_in a b (a 6 d).toInt64) 1) n).2)))) 4 (((r_in a b (a 6 d).toInt64) 8 4) + (r_over ((r_in a b (a 6 d).toInt64) 8 7 + m_of (a 0 1) (m_pd (a 2) (a 3) ((r_in a b (a 6 d).toInt64) 1) n).2) ((r_in a b (a 6 d).toInt64) 0 0))))) hx hb hK hP hD hS 8 1 rfl rfl rfl (by decide) (by decide) dX2_dayRuns_259 (fun H locs hP hD hS => ?_)
        have hP : va_P D vwCl (wM g q a (va_up (va_up (r_in a b (a 6 d).toInt64) 1 ((m_pd (a 2) (a 3) ((r_in a b (a 6 d).toInt64) 1) n).1)) 8 (vp_updL (vp_updL (vp_updL (vp_updL (vp_updL ((r_in a b (a 6 d).toInt64) 8) 2 (((r_in a b (a 6 d).toInt64) 8 2) + ((m_pd (a 2) (a 3) ((r_in a b (a 6 d).toInt64) 1) n).2))) 3 (((r_in a b (a 6 d).toInt64) 8 3) + (((m_pd (a 2) (a 3) ((r_in a b (a 6 d).toInt64) 1) n).2) - (m_of (a 0 1) ((m_pd (a 2) (a 3) ((r_in a b (a 6 d).toInt64) 1) n).2))))) 7 (((r_in a b (a 6 d).toInt64) 8 7) + (m_of (a 0 1) ((m_pd (a 2) (a 3) ((r_in a b (a 6 d).toInt64) 1) n).2)))) 4 (((r_in a b (a 6 d).toInt64) 8 4) + (r_over ((r_in a b (a 6 d).toInt64) 8 7 + m_of (a 0 1) (m_pd (a 2) (a 3) ((r_in a b (a 6 d).toInt64) 1) n).2) ((r_in a b (a 6 d).toInt64) 0 0)))) 7 ((((r_in a b (a 6 d).toInt64) 8 7) + (m_of (a 0 1) ((m_pd (a 2) (a 3) ((r_in a b (a 6 d).toInt64) 1) n).2))) - (r_over ((r_in a b (a 6 d).toInt64) 8 7 + m_of (a 0 1) (m_pd (a 2) (a 3) ((r_in a b (a 6 d).toInt64) 1) n).2) ((r_in a b (a 6 d).toInt64) 0 0)))))) H := hP
        have hD : va_D A (wM g q a (va_up (va_up (r_in a b (a 6 d).toInt64) 1 ((m_pd (a 2) (a 3) ((r_in a b (a 6 d).toInt64) 1) n).1)) 8 (vp_updL (vp_updL (vp_updL (vp_updL (vp_updL ((r_in a b (a 6 d).toInt64) 8) 2 (((r_in a b (a 6 d).toInt64) 8 2) + ((m_pd (a 2) (a 3) ((r_in a b (a 6 d).toInt64) 1) n).2))) 3 (((r_in a b (a 6 d).toInt64) 8 3) + (((m_pd (a 2) (a 3) ((r_in a b (a 6 d).toInt64) 1) n).2) - (m_of (a 0 1) ((m_pd (a 2) (a 3) ((r_in a b (a 6 d).toInt64) 1) n).2))))) 7 (((r_in a b (a 6 d).toInt64) 8 7) + (m_of (a 0 1) ((m_pd (a 2) (a 3) ((r_in a b (a 6 d).toInt64) 1) n).2)))) 4 (((r_in a b (a 6 d).toInt64) 8 4) + (r_over ((r_in a b (a 6 d).toInt64) 8 7 + m_of (a 0 1) (m_pd (a 2) (a 3) ((r_in a b (a 6 d).toInt64) 1) n).2) ((r_in a b (a 6 d).toInt64) 0 0)))) 7 ((((r_in a b (a 6 d).toInt64) 8 7) + (m_of (a 0 1) ((m_pd (a 2) (a 3) ((r_in a b (a 6 d).toInt64) 1) n).2))) - (r_over ((r_in a b (a 6 d).toInt64) 8 7 + m_of (a 0 1) (m_pd (a 2) (a 3) ((r_in a b (a 6 d).toInt64) 1) n).2) ((r_in a b (a 6 d).toInt64) 0 0)))))) := hD
        refine lv_aload_n hx hb dX2_dayRuns_260 rfl (lv_at hl 3 rfl) ?_
        refine va_get (D := D) (ci := 2) (v := .ref (q 7)) (C := RX2) (T := TX2) (N := 22) hx hb hts iw_X2 hown hK hP 0 rfl rfl 14 (by decide) (hts _ kf_X2_32) (fun _ h9 => h9) rfl dX2_dayRuns_261 ?_
        refine lv_aload_n hx hb dX2_dayRuns_264 rfl (lv_at hl 3 rfl) ?_
        refine va_get (D := D) (ci := 2) (v := .int (a 0 4)) (C := RX2) (T := TX2) (N := 22) hx hb hts iw_X2 hown hK hP 0 rfl rfl 12 (by decide) (hts _ kf_X2_90) (fun _ h9 => h9) rfl dX2_dayRuns_265 ?_
        rw [hd]
        refine lv_lconst (v := 0) hx hb dX2_dayRuns_268 (by decide) ?_
        refine za_last (k := d) (x := 0) (f := ((r_in a b (a 6 d).toInt64) 7)) hx hb hK hP hD hS 7 1 rfl rfl rfl (by omega) (by decide) dX2_dayRuns_269 (fun H locs hP hD hS => ?_)
        have hP : va_P D vwCl (wM g q a (va_up (va_up (va_up (r_in a b (a 6 d).toInt64) 1 ((m_pd (a 2) (a 3) ((r_in a b (a 6 d).toInt64) 1) n).1)) 7 (vp_updL ((r_in a b (a 6 d).toInt64) 7) d 0)) 8 (vp_updL (vp_updL (vp_updL (vp_updL (vp_updL ((r_in a b (a 6 d).toInt64) 8) 2 (((r_in a b (a 6 d).toInt64) 8 2) + ((m_pd (a 2) (a 3) ((r_in a b (a 6 d).toInt64) 1) n).2))) 3 (((r_in a b (a 6 d).toInt64) 8 3) + (((m_pd (a 2) (a 3) ((r_in a b (a 6 d).toInt64) 1) n).2) - (m_of (a 0 1) ((m_pd (a 2) (a 3) ((r_in a b (a 6 d).toInt64) 1) n).2))))) 7 (((r_in a b (a 6 d).toInt64) 8 7) + (m_of (a 0 1) ((m_pd (a 2) (a 3) ((r_in a b (a 6 d).toInt64) 1) n).2)))) 4 (((r_in a b (a 6 d).toInt64) 8 4) + (r_over ((r_in a b (a 6 d).toInt64) 8 7 + m_of (a 0 1) (m_pd (a 2) (a 3) ((r_in a b (a 6 d).toInt64) 1) n).2) ((r_in a b (a 6 d).toInt64) 0 0)))) 7 ((((r_in a b (a 6 d).toInt64) 8 7) + (m_of (a 0 1) ((m_pd (a 2) (a 3) ((r_in a b (a 6 d).toInt64) 1) n).2))) - (r_over ((r_in a b (a 6 d).toInt64) 8 7 + m_of (a 0 1) (m_pd (a 2) (a 3) ((r_in a b (a 6 d).toInt64) 1) n).2) ((r_in a b (a 6 d).toInt64) 0 0)))))) H := hP
        have hD : va_D A (wM g q a (va_up (va_up (va_up (r_in a b (a 6 d).toInt64) 1 ((m_pd (a 2) (a 3) ((r_in a b (a 6 d).toInt64) 1) n).1)) 7 (vp_updL ((r_in a b (a 6 d).toInt64) 7) d 0)) 8 (vp_updL (vp_updL (vp_updL (vp_updL (vp_updL ((r_in a b (a 6 d).toInt64) 8) 2 (((r_in a b (a 6 d).toInt64) 8 2) + ((m_pd (a 2) (a 3) ((r_in a b (a 6 d).toInt64) 1) n).2))) 3 (((r_in a b (a 6 d).toInt64) 8 3) + (((m_pd (a 2) (a 3) ((r_in a b (a 6 d).toInt64) 1) n).2) - (m_of (a 0 1) ((m_pd (a 2) (a 3) ((r_in a b (a 6 d).toInt64) 1) n).2))))) 7 (((r_in a b (a 6 d).toInt64) 8 7) + (m_of (a 0 1) ((m_pd (a 2) (a 3) ((r_in a b (a 6 d).toInt64) 1) n).2)))) 4 (((r_in a b (a 6 d).toInt64) 8 4) + (r_over ((r_in a b (a 6 d).toInt64) 8 7 + m_of (a 0 1) (m_pd (a 2) (a 3) ((r_in a b (a 6 d).toInt64) 1) n).2) ((r_in a b (a 6 d).toInt64) 0 0)))) 7 ((((r_in a b (a 6 d).toInt64) 8 7) + (m_of (a 0 1) ((m_pd (a 2) (a 3) ((r_in a b (a 6 d).toInt64) 1) n).2))) - (r_over ((r_in a b (a 6 d).toInt64) 8 7 + m_of (a 0 1) (m_pd (a 2) (a 3) ((r_in a b (a 6 d).toInt64) 1) n).2) ((r_in a b (a 6 d).toInt64) 0 0)))))) := hD
        refine lv_aload_n hx hb dX2_dayRuns_270 rfl (lv_at hl 3 rfl) ?_
        refine zf_vv (rest := []) C0 hP hD hS (c_M_stagesRun l D g q a (va_up (va_up (va_up (r_in a b (a 6 d).toInt64) 1 ((m_pd (a 2) (a 3) ((r_in a b (a 6 d).toInt64) 1) n).1)) 7 (vp_updL ((r_in a b (a 6 d).toInt64) 7) d 0)) 8 (vp_updL (vp_updL (vp_updL (vp_updL (vp_updL ((r_in a b (a 6 d).toInt64) 8) 2 (((r_in a b (a 6 d).toInt64) 8 2) + ((m_pd (a 2) (a 3) ((r_in a b (a 6 d).toInt64) 1) n).2))) 3 (((r_in a b (a 6 d).toInt64) 8 3) + (((m_pd (a 2) (a 3) ((r_in a b (a 6 d).toInt64) 1) n).2) - (m_of (a 0 1) ((m_pd (a 2) (a 3) ((r_in a b (a 6 d).toInt64) 1) n).2))))) 7 (((r_in a b (a 6 d).toInt64) 8 7) + (m_of (a 0 1) ((m_pd (a 2) (a 3) ((r_in a b (a 6 d).toInt64) 1) n).2)))) 4 (((r_in a b (a 6 d).toInt64) 8 4) + (r_over ((r_in a b (a 6 d).toInt64) 8 7 + m_of (a 0 1) (m_pd (a 2) (a 3) ((r_in a b (a 6 d).toInt64) 1) n).2) ((r_in a b (a 6 d).toInt64) 0 0)))) 7 ((((r_in a b (a 6 d).toInt64) 8 7) + (m_of (a 0 1) ((m_pd (a 2) (a 3) ((r_in a b (a 6 d).toInt64) 1) n).2))) - (r_over ((r_in a b (a 6 d).toInt64) 8 7 + m_of (a 0 1) (m_pd (a 2) (a 3) ((r_in a b (a 6 d).toInt64) 1) n).2) ((r_in a b (a 6 d).toInt64) 0 0))))) sc hsc hsc4 d hd hd4) kk_X2_107 kv_X2_107 2 rfl 0 rfl hl.1 rfl rfl (Nat.le_of_ble_eq_true rfl) ⟨(Nat.le_of_ble_eq_true rfl), (Nat.le_of_ble_eq_true rfl)⟩ rfl rfl ⟨(Nat.le_of_ble_eq_true rfl), (Nat.le_of_ble_eq_true rfl)⟩ dX2_dayRuns_271 (fun u_271 H locs hw_271 hP hD hS => ?_)
        refine lv_aload_n hx hb dX2_dayRuns_274 rfl (lv_at hl 3 rfl) ?_
        refine lv_dup hx hb dX2_dayRuns_275 rfl ?_
        refine va_get (D := D) (ci := 2) (v := .int (a 0 4)) (C := RX2) (T := TX2) (N := 22) hx hb hts iw_X2 hown hK hP 0 rfl rfl 12 (by decide) (hts _ kf_X2_90) (fun _ h9 => h9) rfl dX2_dayRuns_276 ?_
        rw [hd]
        refine lv_iconst (v := 1) hx hb dX2_dayRuns_279 (by decide) ?_
        refine lv_iadd hx hb dX2_dayRuns_280 ?_
        rw [show (nI d) + 1 = nI (d + 1) from nI_1 d]
        refine va_put (D := D) (ci := 2) (v := .int (nI (d + 1))) (ty := .int) (C := RX2) (T := TX2) (N := 22) hx hb hts iw_X2 tyX2 tyok_X2 nm_X2 hown hK hP hD hS 0 rfl rfl 12 (by decide) (hts _ kf_X2_90) (fun _ h9 => h9) rfl (by decide +kernel) rfl rfl (Nat.le_of_ble_eq_true rfl) dX2_dayRuns_281 (fun H locs hP hD hS => ?_)
        have hP : va_P D vwCl (wM g q (va_up a 0 (upd (a 0) 4 (nI (d + 1)))) u_271) H := hP
        have hD : va_D A (wM g q (va_up a 0 (upd (a 0) 4 (nI (d + 1)))) u_271) := hD
        exact hret u_271 _ _ _ _ _ _ (hw_271.trans rfl) hP hD hS (Nat.le_of_ble_eq_true rfl) (Nat.le_of_ble_eq_true rfl) dX2_dayRuns_284
    | succ t_74 ih_74 =>
      intro i hi_74 H locs ls hP hD hS hl
      refine lv_iload hx hb dX2_dayRuns_74 (lv_at hl 0 rfl) ?_
      refine lv_aload_n hx hb dX2_dayRuns_76 rfl (lv_at hl 2 rfl) ?_
      refine va_get (D := D) (ci := 2) (v := .int (a 0 5)) (C := RX2) (T := TX2) (N := 22) hx hb hts iw_X2 hown hK hP 0 rfl rfl 0 (by decide) (hts _ kf_X2_59) (fun _ h9 => h9) rfl dX2_dayRuns_77 ?_
      rw [hly]
      refine lv_icmp_ge (tgt := 156) hx hb dX2_dayRuns_80 (by decide) (fun c_80 => absurd c_80 (nI_ge (by omega) (by omega))) (fun _ => ?_)
      refine lv_aload_n hx hb dX2_dayRuns_83 rfl (lv_at hl 2 rfl) ?_
      refine va_get (D := D) (ci := 2) (v := .ref (q 1)) (C := RX2) (T := TX2) (N := 22) hx hb hts iw_X2 hown hK hP 0 rfl rfl 1 (by decide) (hts _ kf_X2_7) (fun _ h9 => h9) rfl dX2_dayRuns_84 ?_
      refine lv_iload hx hb dX2_dayRuns_87 (lv_at hl 0 rfl) ?_
      refine lv_dup2_11 hx hb dX2_dayRuns_89 rfl rfl ?_
      refine za_lald (k := i) (f := ((m_pd (a 2) (a 3) ((r_in a b (a 6 d).toInt64) 1) i).1)) (v := (m_pd (a 2) (a 3) ((r_in a b (a 6 d).toInt64) 1) i).1 i) hx hb hK hP 1 1 rfl rfl rfl (by omega) (by decide) rfl dX2_dayRuns_90 ?_
      refine lv_lload hx hb dX2_dayRuns_91 (lv_at hl 1 rfl) ?_
      refine lv_ladd hx hb dX2_dayRuns_93 ?_
      refine za_last (k := i) (x := ((m_pd (a 2) (a 3) ((r_in a b (a 6 d).toInt64) 1) i).1 i) + ((m_pd (a 2) (a 3) ((r_in a b (a 6 d).toInt64) 1) i).2)) (f := ((m_pd (a 2) (a 3) ((r_in a b (a 6 d).toInt64) 1) i).1)) hx hb hK hP hD hS 1 1 rfl rfl rfl (by omega) (by decide) dX2_dayRuns_94 (fun H locs hP hD hS => ?_)
      have hP : va_P D vwCl (wM g q a (va_up (r_in a b (a 6 d).toInt64) 1 (vp_updL ((m_pd (a 2) (a 3) ((r_in a b (a 6 d).toInt64) 1) i).1) i (((m_pd (a 2) (a 3) ((r_in a b (a 6 d).toInt64) 1) i).1 i) + ((m_pd (a 2) (a 3) ((r_in a b (a 6 d).toInt64) 1) i).2))))) H := hP
      have hD : va_D A (wM g q a (va_up (r_in a b (a 6 d).toInt64) 1 (vp_updL ((m_pd (a 2) (a 3) ((r_in a b (a 6 d).toInt64) 1) i).1) i (((m_pd (a 2) (a 3) ((r_in a b (a 6 d).toInt64) 1) i).1 i) + ((m_pd (a 2) (a 3) ((r_in a b (a 6 d).toInt64) 1) i).2))))) := hD
      refine lv_aload_n hx hb dX2_dayRuns_95 rfl (lv_at hl 2 rfl) ?_
      refine va_get (D := D) (ci := 2) (v := .ref (q 1)) (C := RX2) (T := TX2) (N := 22) hx hb hts iw_X2 hown hK hP 0 rfl rfl 1 (by decide) (hts _ kf_X2_7) (fun _ h9 => h9) rfl dX2_dayRuns_96 ?_
      refine lv_iload hx hb dX2_dayRuns_99 (lv_at hl 0 rfl) ?_
      refine za_lald (k := i) (f := (vp_updL ((m_pd (a 2) (a 3) ((r_in a b (a 6 d).toInt64) 1) i).1) i (((m_pd (a 2) (a 3) ((r_in a b (a 6 d).toInt64) 1) i).1 i) + ((m_pd (a 2) (a 3) ((r_in a b (a 6 d).toInt64) 1) i).2)))) (v := ((m_pd (a 2) (a 3) ((r_in a b (a 6 d).toInt64) 1) i).1 i) + ((m_pd (a 2) (a 3) ((r_in a b (a 6 d).toInt64) 1) i).2)) hx hb hK hP 1 1 rfl rfl rfl (by omega) (by decide) pk_uLs dX2_dayRuns_101 ?_
      refine lv_aload_n hx hb dX2_dayRuns_102 rfl (lv_at hl 2 rfl) ?_
      refine va_get (D := D) (ci := 2) (v := .ref (q 2)) (C := RX2) (T := TX2) (N := 22) hx hb hts iw_X2 hown hK hP 0 rfl rfl 2 (by decide) (hts _ kf_X2_13) (fun _ h9 => h9) rfl dX2_dayRuns_103 ?_
      refine lv_iload hx hb dX2_dayRuns_106 (lv_at hl 0 rfl) ?_
      refine za_iald (k := i) (f := (a 2)) (v := a 2 i) hx hb hK hP 2 0 rfl rfl rfl (by omega) (by decide) rfl dX2_dayRuns_108 ?_
      refine lv_i2l (v := (a 2 i).toInt64) hx hb dX2_dayRuns_109 rfl ?_
      refine lv_lsub hx hb dX2_dayRuns_110 ?_
      refine lv_lstore (lv' := [(8, .long ((((m_pd (a 2) (a 3) ((r_in a b (a 6 d).toInt64) 1) i).1 i) + ((m_pd (a 2) (a 3) ((r_in a b (a 6 d).toInt64) 1) i).2)) - ((a 2 i).toInt64))), (7, .int (nI i)), (5, .long ((m_pd (a 2) (a 3) ((r_in a b (a 6 d).toInt64) 1) i).2)), (0, .ref (q 0))]) hx hb dX2_dayRuns_111 hl (by decide) rfl (fun ls hl => ?_)
      refine lv_lload hx hb dX2_dayRuns_113 (lv_at hl 0 rfl) ?_
      refine lv_lconst (v := 0) hx hb dX2_dayRuns_115 (by decide) ?_
      refine zl_le (tgt := 135) hx hb dX2_dayRuns_116 dX2_dayRuns_117 (by decide) (fun c_116 => ?_) (fun c_116 => ?_)
      · -- jump at 116
        refine lv_lconst (v := 0) hx hb dX2_dayRuns_135 (by decide) ?_
        refine lv_topl (fun t9_3 et9_3 => ?_)
        obtain rfl : t9_3 = m_of (a 3 i) (m_max0 ((m_pd (a 2) (a 3) ((r_in a b (a 6 d).toInt64) 1) i).1 i + (m_pd (a 2) (a 3) ((r_in a b (a 6 d).toInt64) 1) i).2 - (a 2 i).toInt64)) := et9_3.trans (m_out0 c_116)
        refine lv_lstore (lv' := [(5, .long (m_of (a 3 i) (m_max0 ((m_pd (a 2) (a 3) ((r_in a b (a 6 d).toInt64) 1) i).1 i + (m_pd (a 2) (a 3) ((r_in a b (a 6 d).toInt64) 1) i).2 - (a 2 i).toInt64)))), (8, .long ((((m_pd (a 2) (a 3) ((r_in a b (a 6 d).toInt64) 1) i).1 i) + ((m_pd (a 2) (a 3) ((r_in a b (a 6 d).toInt64) 1) i).2)) - ((a 2 i).toInt64))), (7, .int (nI i)), (0, .ref (q 0))]) hx hb dX2_dayRuns_136 hl (by decide) rfl (fun ls hl => ?_)
        refine lv_aload_n hx hb dX2_dayRuns_138 rfl (lv_at hl 3 rfl) ?_
        refine va_get (D := D) (ci := 2) (v := .ref (q 1)) (C := RX2) (T := TX2) (N := 22) hx hb hts iw_X2 hown hK hP 0 rfl rfl 1 (by decide) (hts _ kf_X2_7) (fun _ h9 => h9) rfl dX2_dayRuns_139 ?_
        refine lv_iload hx hb dX2_dayRuns_142 (lv_at hl 2 rfl) ?_
        refine lv_dup2_11 hx hb dX2_dayRuns_144 rfl rfl ?_
        refine za_lald (k := i) (f := (vp_updL ((m_pd (a 2) (a 3) ((r_in a b (a 6 d).toInt64) 1) i).1) i (((m_pd (a 2) (a 3) ((r_in a b (a 6 d).toInt64) 1) i).1 i) + ((m_pd (a 2) (a 3) ((r_in a b (a 6 d).toInt64) 1) i).2)))) (v := ((m_pd (a 2) (a 3) ((r_in a b (a 6 d).toInt64) 1) i).1 i) + ((m_pd (a 2) (a 3) ((r_in a b (a 6 d).toInt64) 1) i).2)) hx hb hK hP 1 1 rfl rfl rfl (by omega) (by decide) pk_uLs dX2_dayRuns_145 ?_
        refine lv_lload hx hb dX2_dayRuns_146 (lv_at hl 0 rfl) ?_
        refine lv_lsub hx hb dX2_dayRuns_148 ?_
        refine za_last (k := i) (x := (((m_pd (a 2) (a 3) ((r_in a b (a 6 d).toInt64) 1) i).1 i) + ((m_pd (a 2) (a 3) ((r_in a b (a 6 d).toInt64) 1) i).2)) - (m_of (a 3 i) (m_max0 ((m_pd (a 2) (a 3) ((r_in a b (a 6 d).toInt64) 1) i).1 i + (m_pd (a 2) (a 3) ((r_in a b (a 6 d).toInt64) 1) i).2 - (a 2 i).toInt64)))) (f := (vp_updL ((m_pd (a 2) (a 3) ((r_in a b (a 6 d).toInt64) 1) i).1) i (((m_pd (a 2) (a 3) ((r_in a b (a 6 d).toInt64) 1) i).1 i) + ((m_pd (a 2) (a 3) ((r_in a b (a 6 d).toInt64) 1) i).2)))) hx hb hK hP hD hS 1 1 rfl rfl rfl (by omega) (by decide) dX2_dayRuns_149 (fun H locs hP hD hS => ?_)
        have hP : va_P D vwCl (wM g q a (va_up (r_in a b (a 6 d).toInt64) 1 (vp_updL (vp_updL ((m_pd (a 2) (a 3) ((r_in a b (a 6 d).toInt64) 1) i).1) i (((m_pd (a 2) (a 3) ((r_in a b (a 6 d).toInt64) 1) i).1 i) + ((m_pd (a 2) (a 3) ((r_in a b (a 6 d).toInt64) 1) i).2))) i ((((m_pd (a 2) (a 3) ((r_in a b (a 6 d).toInt64) 1) i).1 i) + ((m_pd (a 2) (a 3) ((r_in a b (a 6 d).toInt64) 1) i).2)) - (m_of (a 3 i) (m_max0 ((m_pd (a 2) (a 3) ((r_in a b (a 6 d).toInt64) 1) i).1 i + (m_pd (a 2) (a 3) ((r_in a b (a 6 d).toInt64) 1) i).2 - (a 2 i).toInt64))))))) H := hP
        have hD : va_D A (wM g q a (va_up (r_in a b (a 6 d).toInt64) 1 (vp_updL (vp_updL ((m_pd (a 2) (a 3) ((r_in a b (a 6 d).toInt64) 1) i).1) i (((m_pd (a 2) (a 3) ((r_in a b (a 6 d).toInt64) 1) i).1 i) + ((m_pd (a 2) (a 3) ((r_in a b (a 6 d).toInt64) 1) i).2))) i ((((m_pd (a 2) (a 3) ((r_in a b (a 6 d).toInt64) 1) i).1 i) + ((m_pd (a 2) (a 3) ((r_in a b (a 6 d).toInt64) 1) i).2)) - (m_of (a 3 i) (m_max0 ((m_pd (a 2) (a 3) ((r_in a b (a 6 d).toInt64) 1) i).1 i + (m_pd (a 2) (a 3) ((r_in a b (a 6 d).toInt64) 1) i).2 - (a 2 i).toInt64))))))) := hD
        refine lv_iinc (v := nI (i + 1)) (lv' := [(7, .int (nI (i + 1))), (5, .long (m_of (a 3 i) (m_max0 ((m_pd (a 2) (a 3) ((r_in a b (a 6 d).toInt64) 1) i).1 i + (m_pd (a 2) (a 3) ((r_in a b (a 6 d).toInt64) 1) i).2 - (a 2 i).toInt64)))), (8, .long ((((m_pd (a 2) (a 3) ((r_in a b (a 6 d).toInt64) 1) i).1 i) + ((m_pd (a 2) (a 3) ((r_in a b (a 6 d).toInt64) 1) i).2)) - ((a 2 i).toInt64))), (0, .ref (q 0))]) hx hb dX2_dayRuns_150 hl (k := 2) rfl (nI_1 i) (by decide) rfl (fun ls hl => ?_)
        refine lv_goto (tgt := 74) hx hb dX2_dayRuns_153 (by decide) ?_
        have hP : va_P D vwCl (wM g q a (va_up (r_in a b (a 6 d).toInt64) 1 ((m_pd (a 2) (a 3) ((r_in a b (a 6 d).toInt64) 1) (i + 1)).1))) _ := hP
        have hD : va_D A (wM g q a (va_up (r_in a b (a 6 d).toInt64) 1 ((m_pd (a 2) (a 3) ((r_in a b (a 6 d).toInt64) 1) (i + 1)).1))) := hD
        have hl : lv_has ls 11 [(7, .int (nI (i + 1))), (5, .long ((m_pd (a 2) (a 3) ((r_in a b (a 6 d).toInt64) 1) (i + 1)).2)), (0, .ref (q 0))] := lv_sub hl [0, 1, 3] rfl
        exact ih_74 (i + 1)  (by omega)  _ _ _ hP hD hS hl
      · -- on at 116
        refine lv_lload hx hb dX2_dayRuns_120 (lv_at hl 0 rfl) ?_
        refine lv_aload_n hx hb dX2_dayRuns_122 rfl (lv_at hl 3 rfl) ?_
        refine va_get (D := D) (ci := 2) (v := .ref (q 3)) (C := RX2) (T := TX2) (N := 22) hx hb hts iw_X2 hown hK hP 0 rfl rfl 3 (by decide) (hts _ kf_X2_17) (fun _ h9 => h9) rfl dX2_dayRuns_123 ?_
        refine lv_iload hx hb dX2_dayRuns_126 (lv_at hl 1 rfl) ?_
        refine za_iald (k := i) (f := (a 3)) (v := a 3 i) hx hb hK hP 3 0 rfl rfl rfl (by omega) (by decide) rfl dX2_dayRuns_128 ?_
        refine zk_pl (rest := []) C0 hP hD hS (c_M_partsOf l D (tyG g) ((((m_pd (a 2) (a 3) ((r_in a b (a 6 d).toInt64) 1) i).1 i) + ((m_pd (a 2) (a 3) ((r_in a b (a 6 d).toInt64) 1) i).2)) - ((a 2 i).toInt64)) (a 3 i)) kk_X2_103 hl.1 rfl rfl (Nat.le_of_ble_eq_true rfl) ⟨(Nat.le_of_ble_eq_true rfl), (Nat.le_of_ble_eq_true rfl)⟩ rfl rfl ⟨(Nat.le_of_ble_eq_true rfl), (Nat.le_of_ble_eq_true rfl)⟩ dX2_dayRuns_129 (fun r_129 H locs hw_129 hP hS => ?_)
        obtain rfl := hw_129
        refine lv_goto (tgt := 136) hx hb dX2_dayRuns_132 (by decide) ?_
        refine lv_topl (fun t9_4 et9_4 => ?_)
        obtain rfl : t9_4 = m_of (a 3 i) (m_max0 ((m_pd (a 2) (a 3) ((r_in a b (a 6 d).toInt64) 1) i).1 i + (m_pd (a 2) (a 3) ((r_in a b (a 6 d).toInt64) 1) i).2 - (a 2 i).toInt64)) := et9_4.trans (m_out1 c_116)
        refine lv_lstore (lv' := [(5, .long (m_of (a 3 i) (m_max0 ((m_pd (a 2) (a 3) ((r_in a b (a 6 d).toInt64) 1) i).1 i + (m_pd (a 2) (a 3) ((r_in a b (a 6 d).toInt64) 1) i).2 - (a 2 i).toInt64)))), (8, .long ((((m_pd (a 2) (a 3) ((r_in a b (a 6 d).toInt64) 1) i).1 i) + ((m_pd (a 2) (a 3) ((r_in a b (a 6 d).toInt64) 1) i).2)) - ((a 2 i).toInt64))), (7, .int (nI i)), (0, .ref (q 0))]) hx hb dX2_dayRuns_136 hl (by decide) rfl (fun ls hl => ?_)
        refine lv_aload_n hx hb dX2_dayRuns_138 rfl (lv_at hl 3 rfl) ?_
        refine va_get (D := D) (ci := 2) (v := .ref (q 1)) (C := RX2) (T := TX2) (N := 22) hx hb hts iw_X2 hown hK hP 0 rfl rfl 1 (by decide) (hts _ kf_X2_7) (fun _ h9 => h9) rfl dX2_dayRuns_139 ?_
        refine lv_iload hx hb dX2_dayRuns_142 (lv_at hl 2 rfl) ?_
        refine lv_dup2_11 hx hb dX2_dayRuns_144 rfl rfl ?_
        refine za_lald (k := i) (f := (vp_updL ((m_pd (a 2) (a 3) ((r_in a b (a 6 d).toInt64) 1) i).1) i (((m_pd (a 2) (a 3) ((r_in a b (a 6 d).toInt64) 1) i).1 i) + ((m_pd (a 2) (a 3) ((r_in a b (a 6 d).toInt64) 1) i).2)))) (v := ((m_pd (a 2) (a 3) ((r_in a b (a 6 d).toInt64) 1) i).1 i) + ((m_pd (a 2) (a 3) ((r_in a b (a 6 d).toInt64) 1) i).2)) hx hb hK hP 1 1 rfl rfl rfl (by omega) (by decide) pk_uLs dX2_dayRuns_145 ?_
        refine lv_lload hx hb dX2_dayRuns_146 (lv_at hl 0 rfl) ?_
        refine lv_lsub hx hb dX2_dayRuns_148 ?_
        refine za_last (k := i) (x := (((m_pd (a 2) (a 3) ((r_in a b (a 6 d).toInt64) 1) i).1 i) + ((m_pd (a 2) (a 3) ((r_in a b (a 6 d).toInt64) 1) i).2)) - (m_of (a 3 i) (m_max0 ((m_pd (a 2) (a 3) ((r_in a b (a 6 d).toInt64) 1) i).1 i + (m_pd (a 2) (a 3) ((r_in a b (a 6 d).toInt64) 1) i).2 - (a 2 i).toInt64)))) (f := (vp_updL ((m_pd (a 2) (a 3) ((r_in a b (a 6 d).toInt64) 1) i).1) i (((m_pd (a 2) (a 3) ((r_in a b (a 6 d).toInt64) 1) i).1 i) + ((m_pd (a 2) (a 3) ((r_in a b (a 6 d).toInt64) 1) i).2)))) hx hb hK hP hD hS 1 1 rfl rfl rfl (by omega) (by decide) dX2_dayRuns_149 (fun H locs hP hD hS => ?_)
        have hP : va_P D vwCl (wM g q a (va_up (r_in a b (a 6 d).toInt64) 1 (vp_updL (vp_updL ((m_pd (a 2) (a 3) ((r_in a b (a 6 d).toInt64) 1) i).1) i (((m_pd (a 2) (a 3) ((r_in a b (a 6 d).toInt64) 1) i).1 i) + ((m_pd (a 2) (a 3) ((r_in a b (a 6 d).toInt64) 1) i).2))) i ((((m_pd (a 2) (a 3) ((r_in a b (a 6 d).toInt64) 1) i).1 i) + ((m_pd (a 2) (a 3) ((r_in a b (a 6 d).toInt64) 1) i).2)) - (m_of (a 3 i) (m_max0 ((m_pd (a 2) (a 3) ((r_in a b (a 6 d).toInt64) 1) i).1 i + (m_pd (a 2) (a 3) ((r_in a b (a 6 d).toInt64) 1) i).2 - (a 2 i).toInt64))))))) H := hP
        have hD : va_D A (wM g q a (va_up (r_in a b (a 6 d).toInt64) 1 (vp_updL (vp_updL ((m_pd (a 2) (a 3) ((r_in a b (a 6 d).toInt64) 1) i).1) i (((m_pd (a 2) (a 3) ((r_in a b (a 6 d).toInt64) 1) i).1 i) + ((m_pd (a 2) (a 3) ((r_in a b (a 6 d).toInt64) 1) i).2))) i ((((m_pd (a 2) (a 3) ((r_in a b (a 6 d).toInt64) 1) i).1 i) + ((m_pd (a 2) (a 3) ((r_in a b (a 6 d).toInt64) 1) i).2)) - (m_of (a 3 i) (m_max0 ((m_pd (a 2) (a 3) ((r_in a b (a 6 d).toInt64) 1) i).1 i + (m_pd (a 2) (a 3) ((r_in a b (a 6 d).toInt64) 1) i).2 - (a 2 i).toInt64))))))) := hD
        refine lv_iinc (v := nI (i + 1)) (lv' := [(7, .int (nI (i + 1))), (5, .long (m_of (a 3 i) (m_max0 ((m_pd (a 2) (a 3) ((r_in a b (a 6 d).toInt64) 1) i).1 i + (m_pd (a 2) (a 3) ((r_in a b (a 6 d).toInt64) 1) i).2 - (a 2 i).toInt64)))), (8, .long ((((m_pd (a 2) (a 3) ((r_in a b (a 6 d).toInt64) 1) i).1 i) + ((m_pd (a 2) (a 3) ((r_in a b (a 6 d).toInt64) 1) i).2)) - ((a 2 i).toInt64))), (0, .ref (q 0))]) hx hb dX2_dayRuns_150 hl (k := 2) rfl (nI_1 i) (by decide) rfl (fun ls hl => ?_)
        refine lv_goto (tgt := 74) hx hb dX2_dayRuns_153 (by decide) ?_
        have hP : va_P D vwCl (wM g q a (va_up (r_in a b (a 6 d).toInt64) 1 ((m_pd (a 2) (a 3) ((r_in a b (a 6 d).toInt64) 1) (i + 1)).1))) _ := hP
        have hD : va_D A (wM g q a (va_up (r_in a b (a 6 d).toInt64) 1 ((m_pd (a 2) (a 3) ((r_in a b (a 6 d).toInt64) 1) (i + 1)).1))) := hD
        have hl : lv_has ls 11 [(7, .int (nI (i + 1))), (5, .long ((m_pd (a 2) (a 3) ((r_in a b (a 6 d).toInt64) 1) (i + 1)).2)), (0, .ref (q 0))] := lv_sub hl [0, 1, 3] rfl
        exact ih_74 (i + 1)  (by omega)  _ _ _ hP hD hS hl
  exact lp_74 (n - 0) 0  (by omega)  _ _ _ hP hD hS (lv_sub hl [0, 1, 4] rfl)
end
section
def rm_M_run : Room := { frames := 3, cells := 0, slots := 0, locals := 81 }
set_option maxHeartbeats 4000000 in
set_option maxRecDepth 100000 in
theorem c_M_run (l : Launch) (D : va_G) (g : Nat → ClassId) (q : Nat → Nat) (a : Nat → Nat → Int32) (b : Nat → Nat → Int64) (n : Nat) (hn : 1 ≤ n ∧ n ≤ 6) (hly : a 0 5 = nI n) (sc : Nat) (hsc : a 0 3 = nI sc) (hsc4 : sc ≤ 4) (d : Nat) (hd : a 0 4 = nI d) (hd4 : d ≤ 400) (x : Int32) : zc_i l D (tyG g) yX2_run cX2_run 3 (some .int) rm_M_run [.ref (q 0), .int x] (wM g q a b) (fun (r : Int32) (u : zT) => r = (if m_days (nI d) x = true then nI (d + x.toNatClampNeg) else -1) ∧ u = if m_days (nI d) x = true then (va_up a 0 (upd (a 0) 4 (nI (d + x.toNatClampNeg))), r_run n sc a b d x.toNatClampNeg) else (a, b)) (fun u => wM g q u.1 u.2) 0 0 := by
  refine zi_of (by decide) (Nat.le_of_ble_eq_true rfl) rfl ?_
  intro p e s m args below meth cd_ A Q ls C0 hnm hP hD hS hl hret
  obtain ⟨hx, hb, hr, hml, hlocks, hown, hts, hK, hA, hN⟩ := id C0
  have hl : lv_has ls 3 [(0, .ref (q 0)), (1, .int x)] := hl
  refine lv_iload_n hx hb dX2_run_0 rfl (lv_at hl 1 rfl) ?_
  refine lv_i2l (v := x.toInt64) hx hb dX2_run_1 rfl ?_
  refine lv_lconst (v := 1) hx hb dX2_run_2 (by decide) ?_
  refine lv_ldc2 (v := 100) hx hb hown (hts _ kc_X2_95) dX2_run_3 ?_
  refine zk_pi (rest := []) C0 hP hD hS (c_M_isIn l D (tyG g) x.toInt64 (1 : Int64) (100 : Int64)) kk_X2_63 hl.1 rfl rfl (Nat.le_of_ble_eq_true rfl) ⟨(Nat.le_of_ble_eq_true rfl), (Nat.le_of_ble_eq_true rfl)⟩ rfl rfl ⟨(Nat.le_of_ble_eq_true rfl), (Nat.le_of_ble_eq_true rfl)⟩ dX2_run_6 (fun r_6 H locs hw_6 hP hS => ?_)
  obtain rfl := hw_6
  refine lv_if_eq (tgt := 24) hx hb dX2_run_9 (by decide) (fun c_9 => ?_) (fun c_9 => ?_)
  · -- jump at 9
    have c_9 := zb_f c_9
    have hdy : m_days (nI d) x = false := by simp [m_days, c_9]
    refine lv_iconst (v := (-1)) hx hb dX2_run_24 (by decide) ?_
    exact hret (-1) (a, b) _ _ _ _ _ _ (vp_nar_int _) (by simp [hdy]) hP hD hS (Nat.le_of_ble_eq_true rfl) (Nat.le_of_ble_eq_true rfl) dX2_run_25
  · -- on at 9
    have c_9 := zb_t c_9
    refine lv_aload_n hx hb dX2_run_12 rfl (lv_at hl 0 rfl) ?_
    refine va_get (D := D) (ci := 2) (v := .int (a 0 4)) (C := RX2) (T := TX2) (N := 22) hx hb hts iw_X2 hown hK hP 0 rfl rfl 12 (by decide) (hts _ kf_X2_90) (fun _ h9 => h9) rfl dX2_run_13 ?_
    rw [hd]
    refine lv_iload_n hx hb dX2_run_16 rfl (lv_at hl 1 rfl) ?_
    refine lv_iadd hx hb dX2_run_17 ?_
    refine lv_sipush (v := 400) hx hb dX2_run_18 (by decide) ?_
    refine lv_icmp_le (tgt := 26) hx hb dX2_run_21 (by decide) (fun c_21 => ?_) (fun c_21 => ?_)
    · -- jump at 21
      have hdy : m_days (nI d) x = true := by simp [m_days, c_9, c_21]
      obtain ⟨k, hk1, hk2, hk3, rfl⟩ := m_days_k hd4 hdy
      have hcl : (nI k).toNatClampNeg = k := nI_clamp (by omega)
      refine lv_iconst (v := 0) hx hb dX2_run_26 (by decide) ?_
      refine lv_istore_n (lv' := [(2, .int 0), (0, .ref (q 0)), (1, .int (nI k))]) hx hb dX2_run_27 rfl hl (by decide) rfl (fun ls hl => ?_)
      have hP : va_P D vwCl (wM g q (va_up a 0 (upd (a 0) 4 (nI (d + 0)))) (r_run n sc a b d 0)) H := by rw [m_nd0 hd]; exact hP
      have hD : va_D A (wM g q (va_up a 0 (upd (a 0) 4 (nI (d + 0)))) (r_run n sc a b d 0)) := by rw [m_nd0 hd]; exact hD
      have lp_28 : ∀ (t_28 i : Nat) , i + t_28 = k → ∀ (H : Heap) (locs : List Loc) (ls : Array Slot), va_P D vwCl (wM g q (va_up a 0 (upd (a 0) 4 (nI (d + i)))) (r_run n sc a b d i)) H → va_D A (wM g q (va_up a 0 (upd (a 0) 4 (nI (d + i)))) (r_run n sc a b d i)) → va_S A s.heap H locs → lv_has ls 3 [(2, .int (nI i)), (1, .int (nI k)), (0, .ref (q 0))] → W p l e rm_M_run s m args below meth cd_ H locs 0 0 Q (F0 m 28 ls []) := by
        intro t_28
        induction t_28 with
        | zero =>
          intro i hi_28 H locs ls hP hD hS hl
          obtain rfl : k = i := by omega
          refine lv_iload_n hx hb dX2_run_28 rfl (lv_at hl 0 rfl) ?_
          refine lv_iload_n hx hb dX2_run_29 rfl (lv_at hl 1 rfl) ?_
          refine lv_icmp_ge (tgt := 43) hx hb dX2_run_30 (by decide) (fun _ => ?_) (fun c_30 => absurd (nI_le (Nat.le_refl _) (by omega)) c_30)
          refine lv_aload_n hx hb dX2_run_43 rfl (lv_at hl 2 rfl) ?_
          refine va_get (D := D) (ci := 2) (v := .int ((va_up a 0 (upd (a 0) 4 (nI (d + k)))) 0 4)) (C := RX2) (T := TX2) (N := 22) hx hb hts iw_X2 hown hK hP 0 rfl rfl 12 (by decide) (hts _ kf_X2_90) (fun _ h9 => h9) rfl dX2_run_44 ?_
          exact hret ((va_up a 0 (upd (a 0) 4 (nI (d + k)))) 0 4) ((va_up a 0 (upd (a 0) 4 (nI (d + k)))), (r_run n sc a b d k)) _ _ _ _ _ _ (vp_nar_int _) (by simp [hdy, hcl]; rfl) hP hD hS (Nat.le_of_ble_eq_true rfl) (Nat.le_of_ble_eq_true rfl) dX2_run_47
        | succ t_28 ih_28 =>
          intro i hi_28 H locs ls hP hD hS hl
          refine lv_iload_n hx hb dX2_run_28 rfl (lv_at hl 0 rfl) ?_
          refine lv_iload_n hx hb dX2_run_29 rfl (lv_at hl 1 rfl) ?_
          refine lv_icmp_ge (tgt := 43) hx hb dX2_run_30 (by decide) (fun c_30 => absurd c_30 (nI_ge (by omega) (by omega))) (fun _ => ?_)
          refine lv_aload_n hx hb dX2_run_33 rfl (lv_at hl 2 rfl) ?_
          refine zf_vv (rest := []) C0 hP hD hS (c_M_dayRuns l D g q (va_up a 0 (upd (a 0) 4 (nI (d + i)))) (r_run n sc a b d i) n hn hly sc hsc hsc4 (d + i) rfl (by omega)) kk_X2_110 kv_X2_110 2 rfl 0 rfl hl.1 rfl rfl (Nat.le_of_ble_eq_true rfl) ⟨(Nat.le_of_ble_eq_true rfl), (Nat.le_of_ble_eq_true rfl)⟩ rfl rfl ⟨(Nat.le_of_ble_eq_true rfl), (Nat.le_of_ble_eq_true rfl)⟩ dX2_run_34 (fun u_34 H locs hw_34 hP hD hS => ?_)
          obtain rfl := hw_34
          have hP : va_P D vwCl (wM g q (va_up a 0 (upd (a 0) 4 (nI (d + (i + 1))))) (r_run n sc a b d (i + 1))) H := hP
          have hD : va_D A (wM g q (va_up a 0 (upd (a 0) 4 (nI (d + (i + 1))))) (r_run n sc a b d (i + 1))) := hD
          refine lv_iinc (v := nI (i + 1)) (lv' := [(2, .int (nI (i + 1))), (1, .int (nI k)), (0, .ref (q 0))]) hx hb dX2_run_37 hl (k := 0) rfl (nI_1 i) (by decide) rfl (fun ls hl => ?_)
          refine lv_goto (tgt := 28) hx hb dX2_run_40 (by decide) ?_
          have hP : va_P D vwCl (wM g q (va_up a 0 (upd (a 0) 4 (nI (d + (i + 1))))) (r_run n sc a b d (i + 1))) _ := hP
          have hD : va_D A (wM g q (va_up a 0 (upd (a 0) 4 (nI (d + (i + 1))))) (r_run n sc a b d (i + 1))) := hD
          have hl : lv_has ls 3 [(2, .int (nI (i + 1))), (1, .int (nI k)), (0, .ref (q 0))] := lv_sub hl [0, 1, 2] rfl
          exact ih_28 (i + 1)  (by omega)  _ _ _ hP hD hS hl
      exact lp_28 (k - 0) 0  (by omega)  _ _ _ hP hD hS (lv_sub hl [0, 2, 1] rfl)
    · -- on at 21
      have hdy : m_days (nI d) x = false := by simp [m_days, c_21]
      refine lv_iconst (v := (-1)) hx hb dX2_run_24 (by decide) ?_
      exact hret (-1) (a, b) _ _ _ _ _ _ (vp_nar_int _) (by simp [hdy]) hP hD hS (Nat.le_of_ble_eq_true rfl) (Nat.le_of_ble_eq_true rfl) dX2_run_25
def rm_M_held : Room := { frames := 1, cells := 0, slots := 0, locals := 25 }
set_option maxHeartbeats 4000000 in
set_option maxRecDepth 100000 in
theorem c_M_held (l : Launch) (D : va_G) (g : Nat → ClassId) (q : Nat → Nat) (a : Nat → Nat → Int32) (b : Nat → Nat → Int64) (n : Nat) (hn : 1 ≤ n ∧ n ≤ 6) (hly : a 0 5 = nI n) (x : Int32) : zc_l l D (tyG g) yX2_held cX2_held 2 (some .long) rm_M_held [.ref (q 0), .int x] (wM g q a b) (fun (r : Int64) (u : Unit) => r = if m_isLayer n x = true then b 1 x.toNatClampNeg else -1) (fun _ => wM g q a b) 0 0 := by
  refine zl_of (by decide) (Nat.le_of_ble_eq_true rfl) rfl ?_
  intro p e s m args below meth cd_ A Q ls C0 hnm hP hD hS hl hret
  obtain ⟨hx, hb, hr, hml, hlocks, hown, hts, hK, hA, hN⟩ := id C0
  have hl : lv_has ls 2 [(0, .ref (q 0)), (1, .int x)] := hl
  refine lv_iload_n hx hb dX2_held_0 rfl (lv_at hl 1 rfl) ?_
  refine lv_i2l (v := x.toInt64) hx hb dX2_held_1 rfl ?_
  refine lv_lconst (v := 0) hx hb dX2_held_2 (by decide) ?_
  refine lv_aload_n hx hb dX2_held_3 rfl (lv_at hl 0 rfl) ?_
  refine va_get (D := D) (ci := 2) (v := .int (a 0 5)) (C := RX2) (T := TX2) (N := 22) hx hb hts iw_X2 hown hK hP 0 rfl rfl 0 (by decide) (hts _ kf_X2_59) (fun _ h9 => h9) rfl dX2_held_4 ?_
  rw [hly]
  refine lv_iconst (v := 1) hx hb dX2_held_7 (by decide) ?_
  refine lv_isub hx hb dX2_held_8 ?_
  refine lv_i2l (v := ((nI n) - 1).toInt64) hx hb dX2_held_9 rfl ?_
  refine zk_pi (rest := []) C0 hP hD hS (c_M_isIn l D (tyG g) x.toInt64 (0 : Int64) (((nI n) - 1).toInt64)) kk_X2_63 hl.1 rfl rfl (Nat.le_of_ble_eq_true rfl) ⟨(Nat.le_of_ble_eq_true rfl), (Nat.le_of_ble_eq_true rfl)⟩ rfl rfl ⟨(Nat.le_of_ble_eq_true rfl), (Nat.le_of_ble_eq_true rfl)⟩ dX2_held_10 (fun r_10 H locs hw_10 hP hS => ?_)
  obtain rfl := hw_10
  refine lv_if_eq (tgt := 25) hx hb dX2_held_13 (by decide) (fun c_13 => ?_) (fun c_13 => ?_)
  · -- jump at 13
    have c_13 := zb_f c_13
    have c_13 : m_isLayer n x = false := c_13
    refine lv_ldc2 (v := (-1)) hx hb hown (hts _ kc_X2_35) dX2_held_25 ?_
    exact hret (-1) () _ _ _ _ _ _ (by simp [c_13]) hP hD hS (Nat.le_of_ble_eq_true rfl) (Nat.le_of_ble_eq_true rfl) dX2_held_28
  · -- on at 13
    have c_13 := zb_t c_13
    have c_13 : m_isLayer n x = true := c_13
    obtain ⟨k, hk, rfl⟩ := m_layer_k hn c_13
    have hcl : (nI k).toNatClampNeg = k := nI_clamp (by omega)
    refine lv_aload_n hx hb dX2_held_16 rfl (lv_at hl 0 rfl) ?_
    refine va_get (D := D) (ci := 2) (v := .ref (q 1)) (C := RX2) (T := TX2) (N := 22) hx hb hts iw_X2 hown hK hP 0 rfl rfl 1 (by decide) (hts _ kf_X2_7) (fun _ h9 => h9) rfl dX2_held_17 ?_
    refine lv_iload_n hx hb dX2_held_20 rfl (lv_at hl 1 rfl) ?_
    refine za_lald (k := k) (f := (b 1)) (v := b 1 k) hx hb hK hP 1 1 rfl rfl rfl (by omega) (by decide) rfl dX2_held_21 ?_
    refine lv_goto (tgt := 28) hx hb dX2_held_22 (by decide) ?_
    exact hret (b 1 k) () _ _ _ _ _ _ (by simp [c_13, hcl]) hP hD hS (Nat.le_of_ble_eq_true rfl) (Nat.le_of_ble_eq_true rfl) dX2_held_28
def rm_M_out : Room := { frames := 1, cells := 0, slots := 0, locals := 25 }
set_option maxHeartbeats 4000000 in
set_option maxRecDepth 100000 in
theorem c_M_out (l : Launch) (D : va_G) (g : Nat → ClassId) (q : Nat → Nat) (a : Nat → Nat → Int32) (b : Nat → Nat → Int64) (x : Int32) : zc_l l D (tyG g) yX2_out cX2_out 2 (some .long) rm_M_out [.ref (q 0), .int x] (wM g q a b) (fun (r : Int64) (u : Unit) => r = if m_within x.toInt64 0 8 = true then b 8 x.toNatClampNeg else -1) (fun _ => wM g q a b) 0 0 := by
  refine zl_of (by decide) (Nat.le_of_ble_eq_true rfl) rfl ?_
  intro p e s m args below meth cd_ A Q ls C0 hnm hP hD hS hl hret
  obtain ⟨hx, hb, hr, hml, hlocks, hown, hts, hK, hA, hN⟩ := id C0
  have hl : lv_has ls 2 [(0, .ref (q 0)), (1, .int x)] := hl
  refine lv_iload_n hx hb dX2_out_0 rfl (lv_at hl 1 rfl) ?_
  refine lv_i2l (v := x.toInt64) hx hb dX2_out_1 rfl ?_
  refine lv_lconst (v := 0) hx hb dX2_out_2 (by decide) ?_
  refine lv_ldc2 (v := 8) hx hb hown (hts _ kc_X2_113) dX2_out_3 ?_
  refine zk_pi (rest := []) C0 hP hD hS (c_M_isIn l D (tyG g) x.toInt64 (0 : Int64) (8 : Int64)) kk_X2_63 hl.1 rfl rfl (Nat.le_of_ble_eq_true rfl) ⟨(Nat.le_of_ble_eq_true rfl), (Nat.le_of_ble_eq_true rfl)⟩ rfl rfl ⟨(Nat.le_of_ble_eq_true rfl), (Nat.le_of_ble_eq_true rfl)⟩ dX2_out_6 (fun r_6 H locs hw_6 hP hS => ?_)
  obtain rfl := hw_6
  refine lv_if_eq (tgt := 21) hx hb dX2_out_9 (by decide) (fun c_9 => ?_) (fun c_9 => ?_)
  · -- jump at 9
    have c_9 := zb_f c_9
    refine lv_ldc2 (v := (-1)) hx hb hown (hts _ kc_X2_35) dX2_out_21 ?_
    exact hret (-1) () _ _ _ _ _ _ (by simp [c_9]) hP hD hS (Nat.le_of_ble_eq_true rfl) (Nat.le_of_ble_eq_true rfl) dX2_out_24
  · -- on at 9
    have c_9 := zb_t c_9
    obtain ⟨k, hk, rfl⟩ := m_rng (m := 8) (by decide) (by decide) c_9
    have hcl : (nI k).toNatClampNeg = k := nI_clamp (by omega)
    refine lv_aload_n hx hb dX2_out_12 rfl (lv_at hl 0 rfl) ?_
    refine va_get (D := D) (ci := 2) (v := .ref (q 8)) (C := RX2) (T := TX2) (N := 22) hx hb hts iw_X2 hown hK hP 0 rfl rfl 13 (by decide) (hts _ kf_X2_29) (fun _ h9 => h9) rfl dX2_out_13 ?_
    refine lv_iload_n hx hb dX2_out_16 rfl (lv_at hl 1 rfl) ?_
    refine za_lald (k := k) (f := (b 8)) (v := b 8 k) hx hb hK hP 8 1 rfl rfl rfl (by omega) (by decide) rfl dX2_out_17 ?_
    refine lv_goto (tgt := 24) hx hb dX2_out_18 (by decide) ?_
    exact hret (b 8 k) () _ _ _ _ _ _ (by simp [c_9, hcl]) hP hD hS (Nat.le_of_ble_eq_true rfl) (Nat.le_of_ble_eq_true rfl) dX2_out_24
def rm_M_balance : Room := { frames := 0, cells := 0, slots := 0, locals := 0 }
set_option maxHeartbeats 4000000 in
set_option maxRecDepth 100000 in
theorem c_M_balance (l : Launch) (D : va_G) (g : Nat → ClassId) (q : Nat → Nat) (a : Nat → Nat → Int32) (b : Nat → Nat → Int64) (n : Nat) (hn : 1 ≤ n ∧ n ≤ 6) (hly : a 0 5 = nI n) : zc_l l D (tyG g) yX2_balance cX2_balance 4 (some .long) rm_M_balance [.ref (q 0)] (wM g q a b) (fun (r : Int64) (u : Unit) => r = m_bal (b 1) (b 8 0 - b 8 1 - b 8 3 - b 8 4 - b 8 5 - b 8 6 - b 8 7 - b 8 8) n) (fun _ => wM g q a b) 0 0 := by
  refine zl_of (by decide) (Nat.le_of_ble_eq_true rfl) rfl ?_
  intro p e s m args below meth cd_ A Q ls C0 hnm hP hD hS hl hret
  obtain ⟨hx, hb, hr, hml, hlocks, hown, hts, hK, hA, hN⟩ := id C0
  have hl : lv_has ls 4 [(0, .ref (q 0))] := hl
  refine lv_aload_n hx hb dX2_balance_0 rfl (lv_at hl 0 rfl) ?_
  refine va_get (D := D) (ci := 2) (v := .ref (q 8)) (C := RX2) (T := TX2) (N := 22) hx hb hts iw_X2 hown hK hP 0 rfl rfl 13 (by decide) (hts _ kf_X2_29) (fun _ h9 => h9) rfl dX2_balance_1 ?_
  refine lv_iconst (v := 0) hx hb dX2_balance_4 (by decide) ?_
  refine za_lald (k := 0) (f := (b 8)) (v := b 8 0) hx hb hK hP 8 1 rfl rfl rfl (by decide) (by decide) rfl dX2_balance_5 ?_
  refine lv_aload_n hx hb dX2_balance_6 rfl (lv_at hl 0 rfl) ?_
  refine va_get (D := D) (ci := 2) (v := .ref (q 8)) (C := RX2) (T := TX2) (N := 22) hx hb hts iw_X2 hown hK hP 0 rfl rfl 13 (by decide) (hts _ kf_X2_29) (fun _ h9 => h9) rfl dX2_balance_7 ?_
  refine lv_iconst (v := 1) hx hb dX2_balance_10 (by decide) ?_
  refine za_lald (k := 1) (f := (b 8)) (v := b 8 1) hx hb hK hP 8 1 rfl rfl rfl (by decide) (by decide) rfl dX2_balance_11 ?_
  refine lv_lsub hx hb dX2_balance_12 ?_
  refine lv_aload_n hx hb dX2_balance_13 rfl (lv_at hl 0 rfl) ?_
  refine va_get (D := D) (ci := 2) (v := .ref (q 8)) (C := RX2) (T := TX2) (N := 22) hx hb hts iw_X2 hown hK hP 0 rfl rfl 13 (by decide) (hts _ kf_X2_29) (fun _ h9 => h9) rfl dX2_balance_14 ?_
  refine lv_iconst (v := 3) hx hb dX2_balance_17 (by decide) ?_
  refine za_lald (k := 3) (f := (b 8)) (v := b 8 3) hx hb hK hP 8 1 rfl rfl rfl (by decide) (by decide) rfl dX2_balance_18 ?_
  refine lv_lsub hx hb dX2_balance_19 ?_
  refine lv_aload_n hx hb dX2_balance_20 rfl (lv_at hl 0 rfl) ?_
  refine va_get (D := D) (ci := 2) (v := .ref (q 8)) (C := RX2) (T := TX2) (N := 22) hx hb hts iw_X2 hown hK hP 0 rfl rfl 13 (by decide) (hts _ kf_X2_29) (fun _ h9 => h9) rfl dX2_balance_21 ?_
  refine lv_iconst (v := 4) hx hb dX2_balance_24 (by decide) ?_
  refine za_lald (k := 4) (f := (b 8)) (v := b 8 4) hx hb hK hP 8 1 rfl rfl rfl (by decide) (by decide) rfl dX2_balance_25 ?_
  refine lv_lsub hx hb dX2_balance_26 ?_
  refine lv_aload_n hx hb dX2_balance_27 rfl (lv_at hl 0 rfl) ?_
  refine va_get (D := D) (ci := 2) (v := .ref (q 8)) (C := RX2) (T := TX2) (N := 22) hx hb hts iw_X2 hown hK hP 0 rfl rfl 13 (by decide) (hts _ kf_X2_29) (fun _ h9 => h9) rfl dX2_balance_28 ?_
  refine lv_iconst (v := 5) hx hb dX2_balance_31 (by decide) ?_
  refine za_lald (k := 5) (f := (b 8)) (v := b 8 5) hx hb hK hP 8 1 rfl rfl rfl (by decide) (by decide) rfl dX2_balance_32 ?_
  refine lv_lsub hx hb dX2_balance_33 ?_
  refine lv_aload_n hx hb dX2_balance_34 rfl (lv_at hl 0 rfl) ?_
  refine va_get (D := D) (ci := 2) (v := .ref (q 8)) (C := RX2) (T := TX2) (N := 22) hx hb hts iw_X2 hown hK hP 0 rfl rfl 13 (by decide) (hts _ kf_X2_29) (fun _ h9 => h9) rfl dX2_balance_35 ?_
  refine lv_bipush (v := 6) hx hb dX2_balance_38 (by decide) ?_
  refine za_lald (k := 6) (f := (b 8)) (v := b 8 6) hx hb hK hP 8 1 rfl rfl rfl (by decide) (by decide) rfl dX2_balance_40 ?_
  refine lv_lsub hx hb dX2_balance_41 ?_
  refine lv_aload_n hx hb dX2_balance_42 rfl (lv_at hl 0 rfl) ?_
  refine va_get (D := D) (ci := 2) (v := .ref (q 8)) (C := RX2) (T := TX2) (N := 22) hx hb hts iw_X2 hown hK hP 0 rfl rfl 13 (by decide) (hts _ kf_X2_29) (fun _ h9 => h9) rfl dX2_balance_43 ?_
  refine lv_bipush (v := 7) hx hb dX2_balance_46 (by decide) ?_
  refine za_lald (k := 7) (f := (b 8)) (v := b 8 7) hx hb hK hP 8 1 rfl rfl rfl (by decide) (by decide) rfl dX2_balance_48 ?_
  refine lv_lsub hx hb dX2_balance_49 ?_
  refine lv_aload_n hx hb dX2_balance_50 rfl (lv_at hl 0 rfl) ?_
  refine va_get (D := D) (ci := 2) (v := .ref (q 8)) (C := RX2) (T := TX2) (N := 22) hx hb hts iw_X2 hown hK hP 0 rfl rfl 13 (by decide) (hts _ kf_X2_29) (fun _ h9 => h9) rfl dX2_balance_51 ?_
  refine lv_bipush (v := 8) hx hb dX2_balance_54 (by decide) ?_
  refine za_lald (k := 8) (f := (b 8)) (v := b 8 8) hx hb hK hP 8 1 rfl rfl rfl (by decide) (by decide) rfl dX2_balance_56 ?_
  refine lv_lsub hx hb dX2_balance_57 ?_
  refine lv_lstore_n (lv' := [(1, .long ((((((((b 8 0) - (b 8 1)) - (b 8 3)) - (b 8 4)) - (b 8 5)) - (b 8 6)) - (b 8 7)) - (b 8 8))), (0, .ref (q 0))]) hx hb dX2_balance_58 rfl hl (by decide) rfl (fun ls hl => ?_)
  refine lv_iconst (v := 0) hx hb dX2_balance_59 (by decide) ?_
  refine lv_istore_n (lv' := [(3, .int 0), (1, .long ((((((((b 8 0) - (b 8 1)) - (b 8 3)) - (b 8 4)) - (b 8 5)) - (b 8 6)) - (b 8 7)) - (b 8 8))), (0, .ref (q 0))]) hx hb dX2_balance_60 rfl hl (by decide) rfl (fun ls hl => ?_)
  have lp_61 : ∀ (t_61 i : Nat) , i + t_61 = n → ∀ (H : Heap) (locs : List Loc) (ls : Array Slot), va_P D vwCl (wM g q a b) H → va_D A (wM g q a b) → va_S A s.heap H locs → lv_has ls 4 [(3, .int (nI i)), (1, .long (m_bal (b 1) (b 8 0 - b 8 1 - b 8 3 - b 8 4 - b 8 5 - b 8 6 - b 8 7 - b 8 8) i)), (0, .ref (q 0))] → W p l e rm_M_balance s m args below meth cd_ H locs 0 0 Q (F0 m 61 ls []) := by
    intro t_61
    induction t_61 with
    | zero =>
      intro i hi_61 H locs ls hP hD hS hl
      obtain rfl : n = i := by omega
      refine lv_iload_n hx hb dX2_balance_61 rfl (lv_at hl 0 rfl) ?_
      refine lv_aload_n hx hb dX2_balance_62 rfl (lv_at hl 2 rfl) ?_
      refine va_get (D := D) (ci := 2) (v := .int (a 0 5)) (C := RX2) (T := TX2) (N := 22) hx hb hts iw_X2 hown hK hP 0 rfl rfl 0 (by decide) (hts _ kf_X2_59) (fun _ h9 => h9) rfl dX2_balance_63 ?_
      rw [hly]
      refine lv_icmp_ge (tgt := 84) hx hb dX2_balance_66 (by decide) (fun _ => ?_) (fun c_66 => absurd (nI_le (Nat.le_refl _) (by omega)) c_66)
      refine lv_lload_n hx hb dX2_balance_84 rfl (lv_at hl 1 rfl) ?_
      exact hret (m_bal (b 1) (b 8 0 - b 8 1 - b 8 3 - b 8 4 - b 8 5 - b 8 6 - b 8 7 - b 8 8) n) () _ _ _ _ _ _ rfl hP hD hS (Nat.le_of_ble_eq_true rfl) (Nat.le_of_ble_eq_true rfl) dX2_balance_85
    | succ t_61 ih_61 =>
      intro i hi_61 H locs ls hP hD hS hl
      refine lv_iload_n hx hb dX2_balance_61 rfl (lv_at hl 0 rfl) ?_
      refine lv_aload_n hx hb dX2_balance_62 rfl (lv_at hl 2 rfl) ?_
      refine va_get (D := D) (ci := 2) (v := .int (a 0 5)) (C := RX2) (T := TX2) (N := 22) hx hb hts iw_X2 hown hK hP 0 rfl rfl 0 (by decide) (hts _ kf_X2_59) (fun _ h9 => h9) rfl dX2_balance_63 ?_
      rw [hly]
      refine lv_icmp_ge (tgt := 84) hx hb dX2_balance_66 (by decide) (fun c_66 => absurd c_66 (nI_ge (by omega) (by omega))) (fun _ => ?_)
      refine lv_lload_n hx hb dX2_balance_69 rfl (lv_at hl 1 rfl) ?_
      refine lv_aload_n hx hb dX2_balance_70 rfl (lv_at hl 2 rfl) ?_
      refine va_get (D := D) (ci := 2) (v := .ref (q 1)) (C := RX2) (T := TX2) (N := 22) hx hb hts iw_X2 hown hK hP 0 rfl rfl 1 (by decide) (hts _ kf_X2_7) (fun _ h9 => h9) rfl dX2_balance_71 ?_
      refine lv_iload_n hx hb dX2_balance_74 rfl (lv_at hl 0 rfl) ?_
      refine za_lald (k := i) (f := (b 1)) (v := b 1 i) hx hb hK hP 1 1 rfl rfl rfl (by omega) (by decide) rfl dX2_balance_75 ?_
      refine lv_lsub hx hb dX2_balance_76 ?_
      refine lv_lstore_n (lv' := [(1, .long ((m_bal (b 1) (b 8 0 - b 8 1 - b 8 3 - b 8 4 - b 8 5 - b 8 6 - b 8 7 - b 8 8) i) - (b 1 i))), (3, .int (nI i)), (0, .ref (q 0))]) hx hb dX2_balance_77 rfl hl (by decide) rfl (fun ls hl => ?_)
      refine lv_iinc (v := nI (i + 1)) (lv' := [(3, .int (nI (i + 1))), (1, .long ((m_bal (b 1) (b 8 0 - b 8 1 - b 8 3 - b 8 4 - b 8 5 - b 8 6 - b 8 7 - b 8 8) i) - (b 1 i))), (0, .ref (q 0))]) hx hb dX2_balance_78 hl (k := 1) rfl (nI_1 i) (by decide) rfl (fun ls hl => ?_)
      refine lv_goto (tgt := 61) hx hb dX2_balance_81 (by decide) ?_
      have hP : va_P D vwCl (wM g q a b) _ := hP
      have hD : va_D A (wM g q a b) := hD
      have hl : lv_has ls 4 [(3, .int (nI (i + 1))), (1, .long (m_bal (b 1) (b 8 0 - b 8 1 - b 8 3 - b 8 4 - b 8 5 - b 8 6 - b 8 7 - b 8 8) (i + 1))), (0, .ref (q 0))] := lv_sub hl [0, 1, 2] rfl
      exact ih_61 (i + 1)  (by omega)  _ _ _ hP hD hS hl
  exact lp_61 (n - 0) 0  (by omega)  _ _ _ hP hD hS (lv_sub hl [0, 1, 2] rfl)
def rm_M_limit : Room := { frames := 1, cells := 0, slots := 0, locals := 25 }
set_option maxHeartbeats 4000000 in
set_option maxRecDepth 100000 in
theorem c_M_limit (l : Launch) (D : va_G) (g : Nat → ClassId) (q : Nat → Nat) (a : Nat → Nat → Int32) (b : Nat → Nat → Int64) (x y : Int64) : zc_i l D (tyG g) yX2_limit cX2_limit 5 (some .boolean) rm_M_limit [.ref (q 0), .long x, .long y] (wM g q a b) (fun (r : Int32) (u : zT) => r = zb (m_within x (-1) 1000000000 && m_within y (-1) 1000000000) ∧ u = if (m_within x (-1) 1000000000 && m_within y (-1) 1000000000) = true then (a, va_up b 0 (vp_updL (vp_updL (b 0) 1 x) 2 y)) else (a, b)) (fun u => wM g q u.1 u.2) 0 0 := by
  refine zi_of (by decide) (Nat.le_of_ble_eq_true rfl) rfl ?_
  intro p e s m args below meth cd_ A Q ls C0 hnm hP hD hS hl hret
  obtain ⟨hx, hb, hr, hml, hlocks, hown, hts, hK, hA, hN⟩ := id C0
  have hl : lv_has ls 5 [(0, .ref (q 0)), (1, .long x), (3, .long y)] := hl
  refine lv_lload_n hx hb dX2_limit_0 rfl (lv_at hl 1 rfl) ?_
  refine lv_ldc2 (v := (-1)) hx hb hown (hts _ kc_X2_35) dX2_limit_1 ?_
  refine lv_ldc2 (v := 1000000000) hx hb hown (hts _ kc_X2_82) dX2_limit_4 ?_
  refine zk_pi (rest := []) C0 hP hD hS (c_M_isIn l D (tyG g) x ((-1) : Int64) (1000000000 : Int64)) kk_X2_63 hl.1 rfl rfl (Nat.le_of_ble_eq_true rfl) ⟨(Nat.le_of_ble_eq_true rfl), (Nat.le_of_ble_eq_true rfl)⟩ rfl rfl ⟨(Nat.le_of_ble_eq_true rfl), (Nat.le_of_ble_eq_true rfl)⟩ dX2_limit_7 (fun r_7 H locs hw_7 hP hS => ?_)
  obtain rfl := hw_7
  refine lv_if_eq (tgt := 26) hx hb dX2_limit_10 (by decide) (fun c_10 => ?_) (fun c_10 => ?_)
  · -- jump at 10
    have c_10 := zb_f c_10
    refine lv_iconst (v := 0) hx hb dX2_limit_26 (by decide) ?_
    exact hret 0 (a, b) _ _ _ _ _ _ rfl (by simp [zb, c_10]) hP hD hS (Nat.le_of_ble_eq_true rfl) (Nat.le_of_ble_eq_true rfl) dX2_limit_27
  · -- on at 10
    have c_10 := zb_t c_10
    refine lv_lload_n hx hb dX2_limit_13 rfl (lv_at hl 2 rfl) ?_
    refine lv_ldc2 (v := (-1)) hx hb hown (hts _ kc_X2_35) dX2_limit_14 ?_
    refine lv_ldc2 (v := 1000000000) hx hb hown (hts _ kc_X2_82) dX2_limit_17 ?_
    refine zk_pi (rest := []) C0 hP hD hS (c_M_isIn l D (tyG g) y ((-1) : Int64) (1000000000 : Int64)) kk_X2_63 hl.1 rfl rfl (Nat.le_of_ble_eq_true rfl) ⟨(Nat.le_of_ble_eq_true rfl), (Nat.le_of_ble_eq_true rfl)⟩ rfl rfl ⟨(Nat.le_of_ble_eq_true rfl), (Nat.le_of_ble_eq_true rfl)⟩ dX2_limit_20 (fun r_20 H locs hw_20 hP hS => ?_)
    obtain rfl := hw_20
    refine lv_if_ne (tgt := 28) hx hb dX2_limit_23 (by decide) (fun c_23 => ?_) (fun c_23 => ?_)
    · -- jump at 23
      have c_23 := zb_t c_23
      refine lv_aload_n hx hb dX2_limit_28 rfl (lv_at hl 0 rfl) ?_
      refine lv_lload_n hx hb dX2_limit_29 rfl (lv_at hl 1 rfl) ?_
      refine va_put (D := D) (ci := 2) (v := .long x) (ty := .long) (C := RX2) (T := TX2) (N := 22) hx hb hts iw_X2 tyX2 tyok_X2 nm_X2 hown hK hP hD hS 0 rfl rfl 15 (by decide) (hts _ kf_X2_37) (fun _ h9 => h9) rfl (by decide +kernel) rfl rfl (Nat.le_of_ble_eq_true rfl) dX2_limit_30 (fun H locs hP hD hS => ?_)
      have hP : va_P D vwCl (wM g q a (va_up b 0 (vp_updL (b 0) 1 x))) H := hP
      have hD : va_D A (wM g q a (va_up b 0 (vp_updL (b 0) 1 x))) := hD
      refine lv_aload_n hx hb dX2_limit_33 rfl (lv_at hl 0 rfl) ?_
      refine lv_lload_n hx hb dX2_limit_34 rfl (lv_at hl 2 rfl) ?_
      refine va_put (D := D) (ci := 2) (v := .long y) (ty := .long) (C := RX2) (T := TX2) (N := 22) hx hb hts iw_X2 tyX2 tyok_X2 nm_X2 hown hK hP hD hS 0 rfl rfl 16 (by decide) (hts _ kf_X2_41) (fun _ h9 => h9) rfl (by decide +kernel) rfl rfl (Nat.le_of_ble_eq_true rfl) dX2_limit_35 (fun H locs hP hD hS => ?_)
      have hP : va_P D vwCl (wM g q a (va_up b 0 (vp_updL (vp_updL (b 0) 1 x) 2 y))) H := hP
      have hD : va_D A (wM g q a (va_up b 0 (vp_updL (vp_updL (b 0) 1 x) 2 y))) := hD
      refine lv_iconst (v := 1) hx hb dX2_limit_38 (by decide) ?_
      exact hret 1 (a, va_up b 0 (vp_updL (vp_updL (b 0) 1 x) 2 y)) _ _ _ _ _ _ rfl (by simp [zb, c_10, c_23]) hP hD hS (Nat.le_of_ble_eq_true rfl) (Nat.le_of_ble_eq_true rfl) dX2_limit_39
    · -- on at 23
      have c_23 := zb_f c_23
      refine lv_iconst (v := 0) hx hb dX2_limit_26 (by decide) ?_
      exact hret 0 (a, b) _ _ _ _ _ _ rfl (by simp [zb, c_10, c_23]) hP hD hS (Nat.le_of_ble_eq_true rfl) (Nat.le_of_ble_eq_true rfl) dX2_limit_27
def rm_M_passed : Room := { frames := 1, cells := 0, slots := 0, locals := 25 }
set_option maxHeartbeats 4000000 in
set_option maxRecDepth 100000 in
theorem c_M_passed_0p (l : Launch) (D : va_G) (g : Nat → ClassId) (q : Nat → Nat) (a : Nat → Nat → Int32) (b : Nat → Nat → Int64) (d : Nat) (hd : a 0 4 = nI d) (hd4 : d ≤ 400) (k : Int32) (hng : ¬ b 0 1 < 0) : zc_i l D (tyG g) yX2_passed cX2_passed 10 (some .int) rm_M_passed [.ref (q 0), .int 0, .int k] (wM g q a b) (fun (r : Int32) (u : Unit) => r = m_dp (b 7) (b 0 1) k d 0 0) (fun _ => wM g q a b) 0 0 := by
  refine zi_of (by decide) (Nat.le_of_ble_eq_true rfl) rfl ?_
  intro p e s m args below meth cd_ A Q ls C0 hnm hP hD hS hl hret
  obtain ⟨hx, hb, hr, hml, hlocks, hown, hts, hK, hA, hN⟩ := id C0
  have hl : lv_has ls 10 [(0, .ref (q 0)), (1, .int 0), (2, .int k)] := hl
  refine lv_iload_n hx hb dX2_passed_0 rfl (lv_at hl 1 rfl) ?_
  refine lv_i2l (v := (0 : Int32).toInt64) hx hb dX2_passed_1 rfl ?_
  refine lv_lconst (v := 0) hx hb dX2_passed_2 (by decide) ?_
  refine lv_lconst (v := 1) hx hb dX2_passed_3 (by decide) ?_
  refine zk_pi (rest := []) C0 hP hD hS (c_M_isIn l D (tyG g) ((0 : Int32).toInt64) (0 : Int64) (1 : Int64)) kk_X2_63 hl.1 rfl rfl (Nat.le_of_ble_eq_true rfl) ⟨(Nat.le_of_ble_eq_true rfl), (Nat.le_of_ble_eq_true rfl)⟩ rfl rfl ⟨(Nat.le_of_ble_eq_true rfl), (Nat.le_of_ble_eq_true rfl)⟩ dX2_passed_4 (fun r_4 H locs hw_4 hP hS => ?_)
  obtain rfl := hw_4
  refine lv_if_ne (tgt := 12) hx hb dX2_passed_7 (by decide) (fun _ => ?_) (fun c_7 => absurd c_7 (by decide))
  refine lv_iload_n hx hb dX2_passed_12 rfl (lv_at hl 1 rfl) ?_
  refine lv_if_ne (tgt := 23) hx hb dX2_passed_13 (by decide) (fun c_13 => absurd (by decide) c_13) (fun _ => ?_)
  refine lv_aload_n hx hb dX2_passed_16 rfl (lv_at hl 0 rfl) ?_
  refine va_get (D := D) (ci := 2) (v := .long (b 0 1)) (C := RX2) (T := TX2) (N := 22) hx hb hts iw_X2 hown hK hP 0 rfl rfl 15 (by decide) (hts _ kf_X2_37) (fun _ h9 => h9) rfl dX2_passed_17 ?_
  refine lv_goto (tgt := 27) hx hb dX2_passed_20 (by decide) ?_
  refine lv_lstore_n (lv' := [(3, .long (b 0 1)), (0, .ref (q 0)), (1, .int 0), (2, .int k)]) hx hb dX2_passed_27 rfl hl (by decide) rfl (fun ls hl => ?_)
  refine lv_lconst (v := 0) hx hb dX2_passed_28 (by decide) ?_
  refine lv_lstore (lv' := [(5, .long 0), (3, .long (b 0 1)), (0, .ref (q 0)), (1, .int 0), (2, .int k)]) hx hb dX2_passed_29 hl (by decide) rfl (fun ls hl => ?_)
  refine lv_iconst (v := 0) hx hb dX2_passed_31 (by decide) ?_
  refine lv_istore (lv' := [(7, .int 0), (5, .long 0), (3, .long (b 0 1)), (0, .ref (q 0)), (1, .int 0), (2, .int k)]) hx hb dX2_passed_32 hl (by decide) rfl (fun ls hl => ?_)
  refine lv_iconst (v := 0) hx hb dX2_passed_34 (by decide) ?_
  refine lv_istore (lv' := [(8, .int 0), (7, .int 0), (5, .long 0), (3, .long (b 0 1)), (0, .ref (q 0)), (1, .int 0), (2, .int k)]) hx hb dX2_passed_35 hl (by decide) rfl (fun ls hl => ?_)
  have lp_37 : ∀ (t_37 i : Nat) (z : Int32) (x : Int64), i + t_37 = d → m_dp (b 7) (b 0 1) k d 0 0 = m_dp (b 7) (b 0 1) k t_37 i z → ∀ (H : Heap) (locs : List Loc) (ls : Array Slot), va_P D vwCl (wM g q a b) H → va_D A (wM g q a b) → va_S A s.heap H locs → lv_has ls 10 [(8, .int (nI i)), (7, .int z), (5, .long x), (0, .ref (q 0)), (1, .int 0), (2, .int k), (3, .long (b 0 1))] → W p l e rm_M_passed s m args below meth cd_ H locs 0 0 Q (F0 m 37 ls []) := by
    intro t_37
    induction t_37 with
    | zero =>
      intro i z x hi_37 heq H locs ls hP hD hS hl
      obtain rfl : d = i := by omega
      refine lv_iload hx hb dX2_passed_37 (lv_at hl 0 rfl) ?_
      refine lv_aload_n hx hb dX2_passed_39 rfl (lv_at hl 3 rfl) ?_
      refine va_get (D := D) (ci := 2) (v := .int (a 0 4)) (C := RX2) (T := TX2) (N := 22) hx hb hts iw_X2 hown hK hP 0 rfl rfl 12 (by decide) (hts _ kf_X2_90) (fun _ h9 => h9) rfl dX2_passed_40 ?_
      rw [hd]
      refine lv_icmp_ge (tgt := 143) hx hb dX2_passed_43 (by decide) (fun _ => ?_) (fun c_43 => absurd (nI_le (Nat.le_refl _) (by omega)) c_43)
      refine lv_iconst (v := (-1)) hx hb dX2_passed_143 (by decide) ?_
      exact hret (-1) () _ _ _ _ _ _ (vp_nar_int _) (by first | exact (heq.trans ((if_neg c_76).trans (if_pos c_116))).symm | exact heq.symm) hP hD hS (Nat.le_of_ble_eq_true rfl) (Nat.le_of_ble_eq_true rfl) dX2_passed_144
    | succ t_37 ih_37 =>
      intro i z x hi_37 heq H locs ls hP hD hS hl
      refine lv_iload hx hb dX2_passed_37 (lv_at hl 0 rfl) ?_
      refine lv_aload_n hx hb dX2_passed_39 rfl (lv_at hl 3 rfl) ?_
      refine va_get (D := D) (ci := 2) (v := .int (a 0 4)) (C := RX2) (T := TX2) (N := 22) hx hb hts iw_X2 hown hK hP 0 rfl rfl 12 (by decide) (hts _ kf_X2_90) (fun _ h9 => h9) rfl dX2_passed_40 ?_
      rw [hd]
      refine lv_icmp_ge (tgt := 143) hx hb dX2_passed_43 (by decide) (fun c_43 => absurd c_43 (nI_ge (by omega) (by omega))) (fun _ => ?_)
      refine lv_lload_n hx hb dX2_passed_46 rfl (lv_at hl 6 rfl) ?_
      refine lv_lconst (v := 0) hx hb dX2_passed_47 (by decide) ?_
      refine zl_lt (tgt := 143) hx hb dX2_passed_48 dX2_passed_49 (by decide) (fun c_48 => absurd c_48 hng) (fun _ => ?_)
      refine lv_lload hx hb dX2_passed_52 (lv_at hl 2 rfl) ?_
      refine lv_aload_n hx hb dX2_passed_54 rfl (lv_at hl 3 rfl) ?_
      refine va_get (D := D) (ci := 2) (v := .ref (q 7)) (C := RX2) (T := TX2) (N := 22) hx hb hts iw_X2 hown hK hP 0 rfl rfl 14 (by decide) (hts _ kf_X2_32) (fun _ h9 => h9) rfl dX2_passed_55 ?_
      refine lv_iload hx hb dX2_passed_58 (lv_at hl 0 rfl) ?_
      refine za_lald (k := i) (f := (b 7)) (v := b 7 i) hx hb hK hP 7 1 rfl rfl rfl (by omega) (by decide) rfl dX2_passed_60 ?_
      refine lv_ladd hx hb dX2_passed_61 ?_
      refine lv_lstore (lv' := [(5, .long (x + (b 7 i))), (8, .int (nI i)), (7, .int z), (0, .ref (q 0)), (1, .int 0), (2, .int k), (3, .long (b 0 1))]) hx hb dX2_passed_62 hl (by decide) rfl (fun ls hl => ?_)
      refine lv_iload_n hx hb dX2_passed_64 rfl (lv_at hl 4 rfl) ?_
      refine lv_if_ne (tgt := 88) hx hb dX2_passed_65 (by decide) (fun c_65 => absurd (by decide) c_65) (fun _ => ?_)
      refine lv_aload_n hx hb dX2_passed_68 rfl (lv_at hl 3 rfl) ?_
      refine va_get (D := D) (ci := 2) (v := .ref (q 7)) (C := RX2) (T := TX2) (N := 22) hx hb hts iw_X2 hown hK hP 0 rfl rfl 14 (by decide) (hts _ kf_X2_32) (fun _ h9 => h9) rfl dX2_passed_69 ?_
      refine lv_iload hx hb dX2_passed_72 (lv_at hl 1 rfl) ?_
      refine za_lald (k := i) (f := (b 7)) (v := b 7 i) hx hb hK hP 7 1 rfl rfl rfl (by omega) (by decide) rfl dX2_passed_74 ?_
      refine lv_lload_n hx hb dX2_passed_75 rfl (lv_at hl 6 rfl) ?_
      refine zl_le (tgt := 84) hx hb dX2_passed_76 dX2_passed_77 (by decide) (fun c_76 => ?_) (fun c_76 => ?_)
      · -- jump at 76
        refine lv_iconst (v := 0) hx hb dX2_passed_84 (by decide) ?_
        refine lv_goto (tgt := 106) hx hb dX2_passed_85 (by decide) ?_
        refine lv_istore (lv' := [(9, .int 0), (5, .long (x + (b 7 i))), (8, .int (nI i)), (7, .int z), (0, .ref (q 0)), (1, .int 0), (2, .int k), (3, .long (b 0 1))]) hx hb dX2_passed_106 hl (by decide) rfl (fun ls hl => ?_)
        refine lv_iload hx hb dX2_passed_108 (lv_at hl 0 rfl) ?_
        refine lv_if_eq (tgt := 122) hx hb dX2_passed_110 (by decide) (fun _ => ?_) (fun c_110 => absurd (by decide) c_110)
        refine lv_iload hx hb dX2_passed_122 (lv_at hl 3 rfl) ?_
        refine lv_iload hx hb dX2_passed_124 (lv_at hl 0 rfl) ?_
        refine lv_if_eq (tgt := 133) hx hb dX2_passed_126 (by decide) (fun _ => ?_) (fun c_126 => absurd (by decide) c_126)
        refine lv_iconst (v := 0) hx hb dX2_passed_133 (by decide) ?_
        refine lv_iadd hx hb dX2_passed_134 ?_
        refine lv_istore (lv' := [(7, .int (z + 0)), (9, .int 0), (5, .long (x + (b 7 i))), (8, .int (nI i)), (0, .ref (q 0)), (1, .int 0), (2, .int k), (3, .long (b 0 1))]) hx hb dX2_passed_135 hl (by decide) rfl (fun ls hl => ?_)
        refine lv_iinc (v := nI (i + 1)) (lv' := [(8, .int (nI (i + 1))), (7, .int (z + 0)), (9, .int 0), (5, .long (x + (b 7 i))), (0, .ref (q 0)), (1, .int 0), (2, .int k), (3, .long (b 0 1))]) hx hb dX2_passed_137 hl (k := 3) rfl (nI_1 i) (by decide) rfl (fun ls hl => ?_)
        refine lv_goto (tgt := 37) hx hb dX2_passed_140 (by decide) ?_
        have hP : va_P D vwCl (wM g q a b) _ := hP
        have hD : va_D A (wM g q a b) := hD
        have hl : lv_has ls 10 [(8, .int (nI (i + 1))), (7, .int (z + 0)), (5, .long (x + b 7 i)), (0, .ref (q 0)), (1, .int 0), (2, .int k), (3, .long (b 0 1))] := lv_sub hl [0, 1, 3, 4, 5, 6, 7] rfl
        exact ih_37 (i + 1) (z + 0) (x + b 7 i) (by omega) (by rw [Int32.add_zero]; exact heq.trans (if_pos c_76)) _ _ _ hP hD hS hl
      · -- on at 76
        refine lv_iconst (v := 1) hx hb dX2_passed_80 (by decide) ?_
        refine lv_goto (tgt := 106) hx hb dX2_passed_81 (by decide) ?_
        refine lv_istore (lv' := [(9, .int 1), (5, .long (x + (b 7 i))), (8, .int (nI i)), (7, .int z), (0, .ref (q 0)), (1, .int 0), (2, .int k), (3, .long (b 0 1))]) hx hb dX2_passed_106 hl (by decide) rfl (fun ls hl => ?_)
        refine lv_iload hx hb dX2_passed_108 (lv_at hl 0 rfl) ?_
        refine lv_if_eq (tgt := 122) hx hb dX2_passed_110 (by decide) (fun c_110 => absurd c_110 (by decide)) (fun _ => ?_)
        refine lv_iload hx hb dX2_passed_113 (lv_at hl 3 rfl) ?_
        refine lv_iload_n hx hb dX2_passed_115 rfl (lv_at hl 6 rfl) ?_
        refine lv_icmp_ne (tgt := 122) hx hb dX2_passed_116 (by decide) (fun c_116 => ?_) (fun c_116 => ?_)
        · -- jump at 116
          refine lv_iload hx hb dX2_passed_122 (lv_at hl 3 rfl) ?_
          refine lv_iload hx hb dX2_passed_124 (lv_at hl 0 rfl) ?_
          refine lv_if_eq (tgt := 133) hx hb dX2_passed_126 (by decide) (fun c_126 => absurd c_126 (by decide)) (fun _ => ?_)
          refine lv_iconst (v := 1) hx hb dX2_passed_129 (by decide) ?_
          refine lv_goto (tgt := 134) hx hb dX2_passed_130 (by decide) ?_
          refine lv_iadd hx hb dX2_passed_134 ?_
          refine lv_istore (lv' := [(7, .int (z + 1)), (9, .int 1), (5, .long (x + (b 7 i))), (8, .int (nI i)), (0, .ref (q 0)), (1, .int 0), (2, .int k), (3, .long (b 0 1))]) hx hb dX2_passed_135 hl (by decide) rfl (fun ls hl => ?_)
          refine lv_iinc (v := nI (i + 1)) (lv' := [(8, .int (nI (i + 1))), (7, .int (z + 1)), (9, .int 1), (5, .long (x + (b 7 i))), (0, .ref (q 0)), (1, .int 0), (2, .int k), (3, .long (b 0 1))]) hx hb dX2_passed_137 hl (k := 3) rfl (nI_1 i) (by decide) rfl (fun ls hl => ?_)
          refine lv_goto (tgt := 37) hx hb dX2_passed_140 (by decide) ?_
          have hP : va_P D vwCl (wM g q a b) _ := hP
          have hD : va_D A (wM g q a b) := hD
          have hl : lv_has ls 10 [(8, .int (nI (i + 1))), (7, .int (z + 1)), (5, .long (x + b 7 i)), (0, .ref (q 0)), (1, .int 0), (2, .int k), (3, .long (b 0 1))] := lv_sub hl [0, 1, 3, 4, 5, 6, 7] rfl
          exact ih_37 (i + 1) (z + 1) (x + b 7 i) (by omega) (heq.trans ((if_neg c_76).trans (if_neg c_116))) _ _ _ hP hD hS hl
        · -- on at 116
          refine lv_iload hx hb dX2_passed_119 (lv_at hl 2 rfl) ?_
          exact hret (nI i) () _ _ _ _ _ _ (vp_nar_int _) (by first | exact (heq.trans ((if_neg c_76).trans (if_pos c_116))).symm | exact heq.symm) hP hD hS (Nat.le_of_ble_eq_true rfl) (Nat.le_of_ble_eq_true rfl) dX2_passed_121
  exact lp_37 (d - 0) 0 0 0 (by omega) rfl _ _ _ hP hD hS (lv_sub hl [0, 1, 2, 4, 5, 6, 3] rfl)
set_option maxHeartbeats 4000000 in
set_option maxRecDepth 100000 in
theorem c_M_passed_1p (l : Launch) (D : va_G) (g : Nat → ClassId) (q : Nat → Nat) (a : Nat → Nat → Int32) (b : Nat → Nat → Int64) (d : Nat) (hd : a 0 4 = nI d) (hd4 : d ≤ 400) (k : Int32) (hng : ¬ b 0 2 < 0) : zc_i l D (tyG g) yX2_passed cX2_passed 10 (some .int) rm_M_passed [.ref (q 0), .int 1, .int k] (wM g q a b) (fun (r : Int32) (u : Unit) => r = m_mp (b 7) (b 0 2) k d 0 0 0) (fun _ => wM g q a b) 0 0 := by
  refine zi_of (by decide) (Nat.le_of_ble_eq_true rfl) rfl ?_
  intro p e s m args below meth cd_ A Q ls C0 hnm hP hD hS hl hret
  obtain ⟨hx, hb, hr, hml, hlocks, hown, hts, hK, hA, hN⟩ := id C0
  have hl : lv_has ls 10 [(0, .ref (q 0)), (1, .int 1), (2, .int k)] := hl
  refine lv_iload_n hx hb dX2_passed_0 rfl (lv_at hl 1 rfl) ?_
  refine lv_i2l (v := (1 : Int32).toInt64) hx hb dX2_passed_1 rfl ?_
  refine lv_lconst (v := 0) hx hb dX2_passed_2 (by decide) ?_
  refine lv_lconst (v := 1) hx hb dX2_passed_3 (by decide) ?_
  refine zk_pi (rest := []) C0 hP hD hS (c_M_isIn l D (tyG g) ((1 : Int32).toInt64) (0 : Int64) (1 : Int64)) kk_X2_63 hl.1 rfl rfl (Nat.le_of_ble_eq_true rfl) ⟨(Nat.le_of_ble_eq_true rfl), (Nat.le_of_ble_eq_true rfl)⟩ rfl rfl ⟨(Nat.le_of_ble_eq_true rfl), (Nat.le_of_ble_eq_true rfl)⟩ dX2_passed_4 (fun r_4 H locs hw_4 hP hS => ?_)
  obtain rfl := hw_4
  refine lv_if_ne (tgt := 12) hx hb dX2_passed_7 (by decide) (fun _ => ?_) (fun c_7 => absurd c_7 (by decide))
  refine lv_iload_n hx hb dX2_passed_12 rfl (lv_at hl 1 rfl) ?_
  refine lv_if_ne (tgt := 23) hx hb dX2_passed_13 (by decide) (fun _ => ?_) (fun c_13 => absurd c_13 (by decide))
  refine lv_aload_n hx hb dX2_passed_23 rfl (lv_at hl 0 rfl) ?_
  refine va_get (D := D) (ci := 2) (v := .long (b 0 2)) (C := RX2) (T := TX2) (N := 22) hx hb hts iw_X2 hown hK hP 0 rfl rfl 16 (by decide) (hts _ kf_X2_41) (fun _ h9 => h9) rfl dX2_passed_24 ?_
  refine lv_lstore_n (lv' := [(3, .long (b 0 2)), (0, .ref (q 0)), (1, .int 1), (2, .int k)]) hx hb dX2_passed_27 rfl hl (by decide) rfl (fun ls hl => ?_)
  refine lv_lconst (v := 0) hx hb dX2_passed_28 (by decide) ?_
  refine lv_lstore (lv' := [(5, .long 0), (3, .long (b 0 2)), (0, .ref (q 0)), (1, .int 1), (2, .int k)]) hx hb dX2_passed_29 hl (by decide) rfl (fun ls hl => ?_)
  refine lv_iconst (v := 0) hx hb dX2_passed_31 (by decide) ?_
  refine lv_istore (lv' := [(7, .int 0), (5, .long 0), (3, .long (b 0 2)), (0, .ref (q 0)), (1, .int 1), (2, .int k)]) hx hb dX2_passed_32 hl (by decide) rfl (fun ls hl => ?_)
  refine lv_iconst (v := 0) hx hb dX2_passed_34 (by decide) ?_
  refine lv_istore (lv' := [(8, .int 0), (7, .int 0), (5, .long 0), (3, .long (b 0 2)), (0, .ref (q 0)), (1, .int 1), (2, .int k)]) hx hb dX2_passed_35 hl (by decide) rfl (fun ls hl => ?_)
  have lp_37 : ∀ (t_37 i : Nat) (z : Int32) (x : Int64), i + t_37 = d → m_mp (b 7) (b 0 2) k d 0 0 0 = m_mp (b 7) (b 0 2) k t_37 i x z → ∀ (H : Heap) (locs : List Loc) (ls : Array Slot), va_P D vwCl (wM g q a b) H → va_D A (wM g q a b) → va_S A s.heap H locs → lv_has ls 10 [(8, .int (nI i)), (7, .int z), (5, .long x), (0, .ref (q 0)), (1, .int 1), (2, .int k), (3, .long (b 0 2))] → W p l e rm_M_passed s m args below meth cd_ H locs 0 0 Q (F0 m 37 ls []) := by
    intro t_37
    induction t_37 with
    | zero =>
      intro i z x hi_37 heq H locs ls hP hD hS hl
      obtain rfl : d = i := by omega
      refine lv_iload hx hb dX2_passed_37 (lv_at hl 0 rfl) ?_
      refine lv_aload_n hx hb dX2_passed_39 rfl (lv_at hl 3 rfl) ?_
      refine va_get (D := D) (ci := 2) (v := .int (a 0 4)) (C := RX2) (T := TX2) (N := 22) hx hb hts iw_X2 hown hK hP 0 rfl rfl 12 (by decide) (hts _ kf_X2_90) (fun _ h9 => h9) rfl dX2_passed_40 ?_
      rw [hd]
      refine lv_icmp_ge (tgt := 143) hx hb dX2_passed_43 (by decide) (fun _ => ?_) (fun c_43 => absurd (nI_le (Nat.le_refl _) (by omega)) c_43)
      refine lv_iconst (v := (-1)) hx hb dX2_passed_143 (by decide) ?_
      exact hret (-1) () _ _ _ _ _ _ (vp_nar_int _) (by first | exact (heq.trans ((if_neg c_97).trans (if_pos c_116))).symm | exact heq.symm) hP hD hS (Nat.le_of_ble_eq_true rfl) (Nat.le_of_ble_eq_true rfl) dX2_passed_144
    | succ t_37 ih_37 =>
      intro i z x hi_37 heq H locs ls hP hD hS hl
      refine lv_iload hx hb dX2_passed_37 (lv_at hl 0 rfl) ?_
      refine lv_aload_n hx hb dX2_passed_39 rfl (lv_at hl 3 rfl) ?_
      refine va_get (D := D) (ci := 2) (v := .int (a 0 4)) (C := RX2) (T := TX2) (N := 22) hx hb hts iw_X2 hown hK hP 0 rfl rfl 12 (by decide) (hts _ kf_X2_90) (fun _ h9 => h9) rfl dX2_passed_40 ?_
      rw [hd]
      refine lv_icmp_ge (tgt := 143) hx hb dX2_passed_43 (by decide) (fun c_43 => absurd c_43 (nI_ge (by omega) (by omega))) (fun _ => ?_)
      refine lv_lload_n hx hb dX2_passed_46 rfl (lv_at hl 6 rfl) ?_
      refine lv_lconst (v := 0) hx hb dX2_passed_47 (by decide) ?_
      refine zl_lt (tgt := 143) hx hb dX2_passed_48 dX2_passed_49 (by decide) (fun c_48 => absurd c_48 hng) (fun _ => ?_)
      refine lv_lload hx hb dX2_passed_52 (lv_at hl 2 rfl) ?_
      refine lv_aload_n hx hb dX2_passed_54 rfl (lv_at hl 3 rfl) ?_
      refine va_get (D := D) (ci := 2) (v := .ref (q 7)) (C := RX2) (T := TX2) (N := 22) hx hb hts iw_X2 hown hK hP 0 rfl rfl 14 (by decide) (hts _ kf_X2_32) (fun _ h9 => h9) rfl dX2_passed_55 ?_
      refine lv_iload hx hb dX2_passed_58 (lv_at hl 0 rfl) ?_
      refine za_lald (k := i) (f := (b 7)) (v := b 7 i) hx hb hK hP 7 1 rfl rfl rfl (by omega) (by decide) rfl dX2_passed_60 ?_
      refine lv_ladd hx hb dX2_passed_61 ?_
      refine lv_lstore (lv' := [(5, .long (x + (b 7 i))), (8, .int (nI i)), (7, .int z), (0, .ref (q 0)), (1, .int 1), (2, .int k), (3, .long (b 0 2))]) hx hb dX2_passed_62 hl (by decide) rfl (fun ls hl => ?_)
      refine lv_iload_n hx hb dX2_passed_64 rfl (lv_at hl 4 rfl) ?_
      refine lv_if_ne (tgt := 88) hx hb dX2_passed_65 (by decide) (fun _ => ?_) (fun c_65 => absurd c_65 (by decide))
      refine lv_lload hx hb dX2_passed_88 (lv_at hl 0 rfl) ?_
      refine lv_lload_n hx hb dX2_passed_90 rfl (lv_at hl 6 rfl) ?_
      refine lv_iload hx hb dX2_passed_91 (lv_at hl 1 rfl) ?_
      refine lv_iconst (v := 1) hx hb dX2_passed_93 (by decide) ?_
      refine lv_iadd hx hb dX2_passed_94 ?_
      rw [show (nI i) + 1 = nI (i + 1) from nI_1 i]
      refine lv_i2l (v := (nI (i + 1)).toInt64) hx hb dX2_passed_95 rfl ?_
      refine lv_lmul hx hb dX2_passed_96 ?_
      refine zl_le (tgt := 105) hx hb dX2_passed_97 dX2_passed_98 (by decide) (fun c_97 => ?_) (fun c_97 => ?_)
      · -- jump at 97
        refine lv_iconst (v := 0) hx hb dX2_passed_105 (by decide) ?_
        refine lv_istore (lv' := [(9, .int 0), (5, .long (x + (b 7 i))), (8, .int (nI i)), (7, .int z), (0, .ref (q 0)), (1, .int 1), (2, .int k), (3, .long (b 0 2))]) hx hb dX2_passed_106 hl (by decide) rfl (fun ls hl => ?_)
        refine lv_iload hx hb dX2_passed_108 (lv_at hl 0 rfl) ?_
        refine lv_if_eq (tgt := 122) hx hb dX2_passed_110 (by decide) (fun _ => ?_) (fun c_110 => absurd (by decide) c_110)
        refine lv_iload hx hb dX2_passed_122 (lv_at hl 3 rfl) ?_
        refine lv_iload hx hb dX2_passed_124 (lv_at hl 0 rfl) ?_
        refine lv_if_eq (tgt := 133) hx hb dX2_passed_126 (by decide) (fun _ => ?_) (fun c_126 => absurd (by decide) c_126)
        refine lv_iconst (v := 0) hx hb dX2_passed_133 (by decide) ?_
        refine lv_iadd hx hb dX2_passed_134 ?_
        refine lv_istore (lv' := [(7, .int (z + 0)), (9, .int 0), (5, .long (x + (b 7 i))), (8, .int (nI i)), (0, .ref (q 0)), (1, .int 1), (2, .int k), (3, .long (b 0 2))]) hx hb dX2_passed_135 hl (by decide) rfl (fun ls hl => ?_)
        refine lv_iinc (v := nI (i + 1)) (lv' := [(8, .int (nI (i + 1))), (7, .int (z + 0)), (9, .int 0), (5, .long (x + (b 7 i))), (0, .ref (q 0)), (1, .int 1), (2, .int k), (3, .long (b 0 2))]) hx hb dX2_passed_137 hl (k := 3) rfl (nI_1 i) (by decide) rfl (fun ls hl => ?_)
        refine lv_goto (tgt := 37) hx hb dX2_passed_140 (by decide) ?_
        have hP : va_P D vwCl (wM g q a b) _ := hP
        have hD : va_D A (wM g q a b) := hD
        have hl : lv_has ls 10 [(8, .int (nI (i + 1))), (7, .int (z + 0)), (5, .long (x + b 7 i)), (0, .ref (q 0)), (1, .int 1), (2, .int k), (3, .long (b 0 2))] := lv_sub hl [0, 1, 3, 4, 5, 6, 7] rfl
        exact ih_37 (i + 1) (z + 0) (x + b 7 i) (by omega) (by rw [Int32.add_zero]; exact heq.trans (if_pos c_97)) _ _ _ hP hD hS hl
      · -- on at 97
        refine lv_iconst (v := 1) hx hb dX2_passed_101 (by decide) ?_
        refine lv_goto (tgt := 106) hx hb dX2_passed_102 (by decide) ?_
        refine lv_istore (lv' := [(9, .int 1), (5, .long (x + (b 7 i))), (8, .int (nI i)), (7, .int z), (0, .ref (q 0)), (1, .int 1), (2, .int k), (3, .long (b 0 2))]) hx hb dX2_passed_106 hl (by decide) rfl (fun ls hl => ?_)
        refine lv_iload hx hb dX2_passed_108 (lv_at hl 0 rfl) ?_
        refine lv_if_eq (tgt := 122) hx hb dX2_passed_110 (by decide) (fun c_110 => absurd c_110 (by decide)) (fun _ => ?_)
        refine lv_iload hx hb dX2_passed_113 (lv_at hl 3 rfl) ?_
        refine lv_iload_n hx hb dX2_passed_115 rfl (lv_at hl 6 rfl) ?_
        refine lv_icmp_ne (tgt := 122) hx hb dX2_passed_116 (by decide) (fun c_116 => ?_) (fun c_116 => ?_)
        · -- jump at 116
          refine lv_iload hx hb dX2_passed_122 (lv_at hl 3 rfl) ?_
          refine lv_iload hx hb dX2_passed_124 (lv_at hl 0 rfl) ?_
          refine lv_if_eq (tgt := 133) hx hb dX2_passed_126 (by decide) (fun c_126 => absurd c_126 (by decide)) (fun _ => ?_)
          refine lv_iconst (v := 1) hx hb dX2_passed_129 (by decide) ?_
          refine lv_goto (tgt := 134) hx hb dX2_passed_130 (by decide) ?_
          refine lv_iadd hx hb dX2_passed_134 ?_
          refine lv_istore (lv' := [(7, .int (z + 1)), (9, .int 1), (5, .long (x + (b 7 i))), (8, .int (nI i)), (0, .ref (q 0)), (1, .int 1), (2, .int k), (3, .long (b 0 2))]) hx hb dX2_passed_135 hl (by decide) rfl (fun ls hl => ?_)
          refine lv_iinc (v := nI (i + 1)) (lv' := [(8, .int (nI (i + 1))), (7, .int (z + 1)), (9, .int 1), (5, .long (x + (b 7 i))), (0, .ref (q 0)), (1, .int 1), (2, .int k), (3, .long (b 0 2))]) hx hb dX2_passed_137 hl (k := 3) rfl (nI_1 i) (by decide) rfl (fun ls hl => ?_)
          refine lv_goto (tgt := 37) hx hb dX2_passed_140 (by decide) ?_
          have hP : va_P D vwCl (wM g q a b) _ := hP
          have hD : va_D A (wM g q a b) := hD
          have hl : lv_has ls 10 [(8, .int (nI (i + 1))), (7, .int (z + 1)), (5, .long (x + b 7 i)), (0, .ref (q 0)), (1, .int 1), (2, .int k), (3, .long (b 0 2))] := lv_sub hl [0, 1, 3, 4, 5, 6, 7] rfl
          exact ih_37 (i + 1) (z + 1) (x + b 7 i) (by omega) (heq.trans ((if_neg c_97).trans (if_neg c_116))) _ _ _ hP hD hS hl
        · -- on at 116
          refine lv_iload hx hb dX2_passed_119 (lv_at hl 2 rfl) ?_
          exact hret (nI i) () _ _ _ _ _ _ (vp_nar_int _) (by first | exact (heq.trans ((if_neg c_97).trans (if_pos c_116))).symm | exact heq.symm) hP hD hS (Nat.le_of_ble_eq_true rfl) (Nat.le_of_ble_eq_true rfl) dX2_passed_121
  exact lp_37 (d - 0) 0 0 0 (by omega) rfl _ _ _ hP hD hS (lv_sub hl [0, 1, 2, 4, 5, 6, 3] rfl)
set_option maxHeartbeats 4000000 in
set_option maxRecDepth 100000 in
theorem c_M_passed_0n (l : Launch) (D : va_G) (g : Nat → ClassId) (q : Nat → Nat) (a : Nat → Nat → Int32) (b : Nat → Nat → Int64) (d : Nat) (hd : a 0 4 = nI d) (hd4 : d ≤ 400) (k : Int32) (hng : b 0 1 < 0) : zc_i l D (tyG g) yX2_passed cX2_passed 10 (some .int) rm_M_passed [.ref (q 0), .int 0, .int k] (wM g q a b) (fun (r : Int32) (u : Unit) => r = -1) (fun _ => wM g q a b) 0 0 := by
  refine zi_of (by decide) (Nat.le_of_ble_eq_true rfl) rfl ?_
  intro p e s m args below meth cd_ A Q ls C0 hnm hP hD hS hl hret
  obtain ⟨hx, hb, hr, hml, hlocks, hown, hts, hK, hA, hN⟩ := id C0
  have hl : lv_has ls 10 [(0, .ref (q 0)), (1, .int 0), (2, .int k)] := hl
  refine lv_iload_n hx hb dX2_passed_0 rfl (lv_at hl 1 rfl) ?_
  refine lv_i2l (v := (0 : Int32).toInt64) hx hb dX2_passed_1 rfl ?_
  refine lv_lconst (v := 0) hx hb dX2_passed_2 (by decide) ?_
  refine lv_lconst (v := 1) hx hb dX2_passed_3 (by decide) ?_
  refine zk_pi (rest := []) C0 hP hD hS (c_M_isIn l D (tyG g) ((0 : Int32).toInt64) (0 : Int64) (1 : Int64)) kk_X2_63 hl.1 rfl rfl (Nat.le_of_ble_eq_true rfl) ⟨(Nat.le_of_ble_eq_true rfl), (Nat.le_of_ble_eq_true rfl)⟩ rfl rfl ⟨(Nat.le_of_ble_eq_true rfl), (Nat.le_of_ble_eq_true rfl)⟩ dX2_passed_4 (fun r_4 H locs hw_4 hP hS => ?_)
  obtain rfl := hw_4
  refine lv_if_ne (tgt := 12) hx hb dX2_passed_7 (by decide) (fun _ => ?_) (fun c_7 => absurd c_7 (by decide))
  refine lv_iload_n hx hb dX2_passed_12 rfl (lv_at hl 1 rfl) ?_
  refine lv_if_ne (tgt := 23) hx hb dX2_passed_13 (by decide) (fun c_13 => absurd (by decide) c_13) (fun _ => ?_)
  refine lv_aload_n hx hb dX2_passed_16 rfl (lv_at hl 0 rfl) ?_
  refine va_get (D := D) (ci := 2) (v := .long (b 0 1)) (C := RX2) (T := TX2) (N := 22) hx hb hts iw_X2 hown hK hP 0 rfl rfl 15 (by decide) (hts _ kf_X2_37) (fun _ h9 => h9) rfl dX2_passed_17 ?_
  refine lv_goto (tgt := 27) hx hb dX2_passed_20 (by decide) ?_
  refine lv_lstore_n (lv' := [(3, .long (b 0 1)), (0, .ref (q 0)), (1, .int 0), (2, .int k)]) hx hb dX2_passed_27 rfl hl (by decide) rfl (fun ls hl => ?_)
  refine lv_lconst (v := 0) hx hb dX2_passed_28 (by decide) ?_
  refine lv_lstore (lv' := [(5, .long 0), (3, .long (b 0 1)), (0, .ref (q 0)), (1, .int 0), (2, .int k)]) hx hb dX2_passed_29 hl (by decide) rfl (fun ls hl => ?_)
  refine lv_iconst (v := 0) hx hb dX2_passed_31 (by decide) ?_
  refine lv_istore (lv' := [(7, .int 0), (5, .long 0), (3, .long (b 0 1)), (0, .ref (q 0)), (1, .int 0), (2, .int k)]) hx hb dX2_passed_32 hl (by decide) rfl (fun ls hl => ?_)
  refine lv_iconst (v := 0) hx hb dX2_passed_34 (by decide) ?_
  refine lv_istore (lv' := [(8, .int 0), (7, .int 0), (5, .long 0), (3, .long (b 0 1)), (0, .ref (q 0)), (1, .int 0), (2, .int k)]) hx hb dX2_passed_35 hl (by decide) rfl (fun ls hl => ?_)
  refine lv_iload hx hb dX2_passed_37 (lv_at hl 0 rfl) ?_
  refine lv_aload_n hx hb dX2_passed_39 rfl (lv_at hl 4 rfl) ?_
  refine va_get (D := D) (ci := 2) (v := .int (a 0 4)) (C := RX2) (T := TX2) (N := 22) hx hb hts iw_X2 hown hK hP 0 rfl rfl 12 (by decide) (hts _ kf_X2_90) (fun _ h9 => h9) rfl dX2_passed_40 ?_
  rw [hd]
  refine lv_icmp_ge (tgt := 143) hx hb dX2_passed_43 (by decide) (fun c_43 => ?_) (fun c_43 => ?_)
  · -- jump at 43
    refine lv_iconst (v := (-1)) hx hb dX2_passed_143 (by decide) ?_
    exact hret (-1) () _ _ _ _ _ _ (vp_nar_int _) rfl hP hD hS (Nat.le_of_ble_eq_true rfl) (Nat.le_of_ble_eq_true rfl) dX2_passed_144
  · -- on at 43
    refine lv_lload_n hx hb dX2_passed_46 rfl (lv_at hl 3 rfl) ?_
    refine lv_lconst (v := 0) hx hb dX2_passed_47 (by decide) ?_
    refine zl_lt (tgt := 143) hx hb dX2_passed_48 dX2_passed_49 (by decide) (fun _ => ?_) (fun c_48 => absurd hng c_48)
    refine lv_iconst (v := (-1)) hx hb dX2_passed_143 (by decide) ?_
    exact hret (-1) () _ _ _ _ _ _ (vp_nar_int _) rfl hP hD hS (Nat.le_of_ble_eq_true rfl) (Nat.le_of_ble_eq_true rfl) dX2_passed_144
set_option maxHeartbeats 4000000 in
set_option maxRecDepth 100000 in
theorem c_M_passed_1n (l : Launch) (D : va_G) (g : Nat → ClassId) (q : Nat → Nat) (a : Nat → Nat → Int32) (b : Nat → Nat → Int64) (d : Nat) (hd : a 0 4 = nI d) (hd4 : d ≤ 400) (k : Int32) (hng : b 0 2 < 0) : zc_i l D (tyG g) yX2_passed cX2_passed 10 (some .int) rm_M_passed [.ref (q 0), .int 1, .int k] (wM g q a b) (fun (r : Int32) (u : Unit) => r = -1) (fun _ => wM g q a b) 0 0 := by
  refine zi_of (by decide) (Nat.le_of_ble_eq_true rfl) rfl ?_
  intro p e s m args below meth cd_ A Q ls C0 hnm hP hD hS hl hret
  obtain ⟨hx, hb, hr, hml, hlocks, hown, hts, hK, hA, hN⟩ := id C0
  have hl : lv_has ls 10 [(0, .ref (q 0)), (1, .int 1), (2, .int k)] := hl
  refine lv_iload_n hx hb dX2_passed_0 rfl (lv_at hl 1 rfl) ?_
  refine lv_i2l (v := (1 : Int32).toInt64) hx hb dX2_passed_1 rfl ?_
  refine lv_lconst (v := 0) hx hb dX2_passed_2 (by decide) ?_
  refine lv_lconst (v := 1) hx hb dX2_passed_3 (by decide) ?_
  refine zk_pi (rest := []) C0 hP hD hS (c_M_isIn l D (tyG g) ((1 : Int32).toInt64) (0 : Int64) (1 : Int64)) kk_X2_63 hl.1 rfl rfl (Nat.le_of_ble_eq_true rfl) ⟨(Nat.le_of_ble_eq_true rfl), (Nat.le_of_ble_eq_true rfl)⟩ rfl rfl ⟨(Nat.le_of_ble_eq_true rfl), (Nat.le_of_ble_eq_true rfl)⟩ dX2_passed_4 (fun r_4 H locs hw_4 hP hS => ?_)
  obtain rfl := hw_4
  refine lv_if_ne (tgt := 12) hx hb dX2_passed_7 (by decide) (fun _ => ?_) (fun c_7 => absurd c_7 (by decide))
  refine lv_iload_n hx hb dX2_passed_12 rfl (lv_at hl 1 rfl) ?_
  refine lv_if_ne (tgt := 23) hx hb dX2_passed_13 (by decide) (fun _ => ?_) (fun c_13 => absurd c_13 (by decide))
  refine lv_aload_n hx hb dX2_passed_23 rfl (lv_at hl 0 rfl) ?_
  refine va_get (D := D) (ci := 2) (v := .long (b 0 2)) (C := RX2) (T := TX2) (N := 22) hx hb hts iw_X2 hown hK hP 0 rfl rfl 16 (by decide) (hts _ kf_X2_41) (fun _ h9 => h9) rfl dX2_passed_24 ?_
  refine lv_lstore_n (lv' := [(3, .long (b 0 2)), (0, .ref (q 0)), (1, .int 1), (2, .int k)]) hx hb dX2_passed_27 rfl hl (by decide) rfl (fun ls hl => ?_)
  refine lv_lconst (v := 0) hx hb dX2_passed_28 (by decide) ?_
  refine lv_lstore (lv' := [(5, .long 0), (3, .long (b 0 2)), (0, .ref (q 0)), (1, .int 1), (2, .int k)]) hx hb dX2_passed_29 hl (by decide) rfl (fun ls hl => ?_)
  refine lv_iconst (v := 0) hx hb dX2_passed_31 (by decide) ?_
  refine lv_istore (lv' := [(7, .int 0), (5, .long 0), (3, .long (b 0 2)), (0, .ref (q 0)), (1, .int 1), (2, .int k)]) hx hb dX2_passed_32 hl (by decide) rfl (fun ls hl => ?_)
  refine lv_iconst (v := 0) hx hb dX2_passed_34 (by decide) ?_
  refine lv_istore (lv' := [(8, .int 0), (7, .int 0), (5, .long 0), (3, .long (b 0 2)), (0, .ref (q 0)), (1, .int 1), (2, .int k)]) hx hb dX2_passed_35 hl (by decide) rfl (fun ls hl => ?_)
  refine lv_iload hx hb dX2_passed_37 (lv_at hl 0 rfl) ?_
  refine lv_aload_n hx hb dX2_passed_39 rfl (lv_at hl 4 rfl) ?_
  refine va_get (D := D) (ci := 2) (v := .int (a 0 4)) (C := RX2) (T := TX2) (N := 22) hx hb hts iw_X2 hown hK hP 0 rfl rfl 12 (by decide) (hts _ kf_X2_90) (fun _ h9 => h9) rfl dX2_passed_40 ?_
  rw [hd]
  refine lv_icmp_ge (tgt := 143) hx hb dX2_passed_43 (by decide) (fun c_43 => ?_) (fun c_43 => ?_)
  · -- jump at 43
    refine lv_iconst (v := (-1)) hx hb dX2_passed_143 (by decide) ?_
    exact hret (-1) () _ _ _ _ _ _ (vp_nar_int _) rfl hP hD hS (Nat.le_of_ble_eq_true rfl) (Nat.le_of_ble_eq_true rfl) dX2_passed_144
  · -- on at 43
    refine lv_lload_n hx hb dX2_passed_46 rfl (lv_at hl 3 rfl) ?_
    refine lv_lconst (v := 0) hx hb dX2_passed_47 (by decide) ?_
    refine zl_lt (tgt := 143) hx hb dX2_passed_48 dX2_passed_49 (by decide) (fun _ => ?_) (fun c_48 => absurd hng c_48)
    refine lv_iconst (v := (-1)) hx hb dX2_passed_143 (by decide) ?_
    exact hret (-1) () _ _ _ _ _ _ (vp_nar_int _) rfl hP hD hS (Nat.le_of_ble_eq_true rfl) (Nat.le_of_ble_eq_true rfl) dX2_passed_144
set_option maxHeartbeats 4000000 in
set_option maxRecDepth 100000 in
theorem c_M_passed_o (l : Launch) (D : va_G) (g : Nat → ClassId) (q : Nat → Nat) (a : Nat → Nat → Int32) (b : Nat → Nat → Int64) (x k : Int32) (hx01 : m_within x.toInt64 0 1 = false) : zc_i l D (tyG g) yX2_passed cX2_passed 10 (some .int) rm_M_passed [.ref (q 0), .int x, .int k] (wM g q a b) (fun (r : Int32) (u : Unit) => r = -1) (fun _ => wM g q a b) 0 0 := by
  refine zi_of (by decide) (Nat.le_of_ble_eq_true rfl) rfl ?_
  intro p e s m args below meth cd_ A Q ls C0 hnm hP hD hS hl hret
  obtain ⟨hx, hb, hr, hml, hlocks, hown, hts, hK, hA, hN⟩ := id C0
  have hl : lv_has ls 10 [(0, .ref (q 0)), (1, .int x), (2, .int k)] := hl
  refine lv_iload_n hx hb dX2_passed_0 rfl (lv_at hl 1 rfl) ?_
  refine lv_i2l (v := x.toInt64) hx hb dX2_passed_1 rfl ?_
  refine lv_lconst (v := 0) hx hb dX2_passed_2 (by decide) ?_
  refine lv_lconst (v := 1) hx hb dX2_passed_3 (by decide) ?_
  refine zk_pi (rest := []) C0 hP hD hS (c_M_isIn l D (tyG g) x.toInt64 (0 : Int64) (1 : Int64)) kk_X2_63 hl.1 rfl rfl (Nat.le_of_ble_eq_true rfl) ⟨(Nat.le_of_ble_eq_true rfl), (Nat.le_of_ble_eq_true rfl)⟩ rfl rfl ⟨(Nat.le_of_ble_eq_true rfl), (Nat.le_of_ble_eq_true rfl)⟩ dX2_passed_4 (fun r_4 H locs hw_4 hP hS => ?_)
  obtain rfl := hw_4
  refine lv_if_ne (tgt := 12) hx hb dX2_passed_7 (by decide) (fun c_7 => absurd (by rw [hx01]; rfl) c_7) (fun _ => ?_)
  refine lv_iconst (v := (-1)) hx hb dX2_passed_10 (by decide) ?_
  exact hret (-1) () _ _ _ _ _ _ (vp_nar_int _) rfl hP hD hS (Nat.le_of_ble_eq_true rfl) (Nat.le_of_ble_eq_true rfl) dX2_passed_11
end
section
def rm_M_sample : Room := { frames := 1, cells := 0, slots := 0, locals := 25 }
set_option maxHeartbeats 4000000 in
set_option maxRecDepth 100000 in
theorem c_M_sample (l : Launch) (D : va_G) (g : Nat → ClassId) (q : Nat → Nat) (a : Nat → Nat → Int32) (b : Nat → Nat → Int64) (cn : Nat → Nat) (hcn : ∀ w, w < 4 → a 9 w = nI (cn w) ∧ cn w ≤ 8) (x y z : Int32) : zc_i l D (tyG g) yX2_sample cX2_sample 6 (some .int) rm_M_sample [.ref (q 0), .int x, .int y, .int z] (wM g q a b) (fun (r : Int32) (u : zT) => r = (if (m_isWell x && decide ((cn x.toNatClampNeg) < 8) && m_within y.toInt64 0 100000 && m_within z.toInt64 (-1000000) 1000000 && decide ((cn x.toNatClampNeg) = 0 ∨ a 10 (8 * x.toNatClampNeg + (cn x.toNatClampNeg) - 1) < y) && !(m_has (fun j => a 11 (8 * x.toNatClampNeg + j)) z (cn x.toNatClampNeg))) = true then nI ((cn x.toNatClampNeg) + 1) else -1) ∧ u = if (m_isWell x && decide ((cn x.toNatClampNeg) < 8) && m_within y.toInt64 0 100000 && m_within z.toInt64 (-1000000) 1000000 && decide ((cn x.toNatClampNeg) = 0 ∨ a 10 (8 * x.toNatClampNeg + (cn x.toNatClampNeg) - 1) < y) && !(m_has (fun j => a 11 (8 * x.toNatClampNeg + j)) z (cn x.toNatClampNeg))) = true then (va_up (va_up (va_up a 9 (upd (a 9) x.toNatClampNeg (nI ((cn x.toNatClampNeg) + 1)))) 10 (upd (a 10) (8 * x.toNatClampNeg + (cn x.toNatClampNeg)) y)) 11 (upd (a 11) (8 * x.toNatClampNeg + (cn x.toNatClampNeg)) z), b) else (a, b)) (fun u => wM g q u.1 u.2) 0 0 := by
  refine zi_of (by decide) (Nat.le_of_ble_eq_true rfl) rfl ?_
  intro p e s m args below meth cd_ A Q ls C0 hnm hP hD hS hl hret
  obtain ⟨hx, hb, hr, hml, hlocks, hown, hts, hK, hA, hN⟩ := id C0
  have hl : lv_has ls 6 [(0, .ref (q 0)), (1, .int x), (2, .int y), (3, .int z)] := hl
  refine lv_iload_n hx hb dX2_sample_0 rfl (lv_at hl 1 rfl) ?_
  refine zk_pi (rest := []) C0 hP hD hS (c_M_isWell l D (tyG g) x) kk_X2_115 hl.1 rfl rfl (Nat.le_of_ble_eq_true rfl) ⟨(Nat.le_of_ble_eq_true rfl), (Nat.le_of_ble_eq_true rfl)⟩ rfl rfl ⟨(Nat.le_of_ble_eq_true rfl), (Nat.le_of_ble_eq_true rfl)⟩ dX2_sample_1 (fun r_1 H locs hw_1 hP hS => ?_)
  obtain rfl := hw_1
  refine lv_if_eq (tgt := 44) hx hb dX2_sample_4 (by decide) (fun c_4 => ?_) (fun c_4 => ?_)
  · -- jump at 4
    have c_4 := zb_f c_4
    refine lv_iconst (v := (-1)) hx hb dX2_sample_44 (by decide) ?_
    exact hret (-1) (a, b) _ _ _ _ _ _ (vp_nar_int _) (by simp [c_4]) hP hD hS (Nat.le_of_ble_eq_true rfl) (Nat.le_of_ble_eq_true rfl) dX2_sample_45
  · -- on at 4
    have c_4 := zb_t c_4
    obtain ⟨w, hw0, rfl⟩ := m_rng (m := 3) (by decide) (by decide) c_4
    have hw4 : w < 4 := by omega
    have hcl : (nI w).toNatClampNeg = w := nI_clamp (by omega)
    obtain ⟨hc, hc8⟩ := hcn w hw4
    refine lv_aload_n hx hb dX2_sample_7 rfl (lv_at hl 0 rfl) ?_
    refine va_get (D := D) (ci := 2) (v := .ref (q 9)) (C := RX2) (T := TX2) (N := 22) hx hb hts iw_X2 hown hK hP 0 rfl rfl 17 (by decide) (hts _ kf_X2_44) (fun _ h9 => h9) rfl dX2_sample_8 ?_
    refine lv_iload_n hx hb dX2_sample_11 rfl (lv_at hl 1 rfl) ?_
    refine za_iald (k := w) (f := (a 9)) (v := a 9 w) hx hb hK hP 9 0 rfl rfl rfl (by omega) (by decide) rfl dX2_sample_12 ?_
    rw [hc]
    refine lv_bipush (v := 8) hx hb dX2_sample_13 (by decide) ?_
    refine lv_icmp_eq (tgt := 44) hx hb dX2_sample_15 (by decide) (fun c_15 => ?_) (fun c_15 => ?_)
    · -- jump at 15
      have hc1 : ¬ cn w < 8 := by have h9 := (nI_eq (a := cn w) (b := 8) (by omega) (by decide)).mp c_15; omega
      refine lv_iconst (v := (-1)) hx hb dX2_sample_44 (by decide) ?_
      exact hret (-1) (a, b) _ _ _ _ _ _ (vp_nar_int _) (by simp [c_4, hc1, hcl]) hP hD hS (Nat.le_of_ble_eq_true rfl) (Nat.le_of_ble_eq_true rfl) dX2_sample_45
    · -- on at 15
      have hc1 : cn w < 8 := by rcases Nat.lt_or_ge (cn w) 8 with h | h; exact h; exact absurd (show nI (cn w) = 8 from by rw [show cn w = 8 from by omega]; rfl) c_15
      refine lv_iload_n hx hb dX2_sample_18 rfl (lv_at hl 2 rfl) ?_
      refine lv_i2l (v := y.toInt64) hx hb dX2_sample_19 rfl ?_
      refine lv_lconst (v := 0) hx hb dX2_sample_20 (by decide) ?_
      refine lv_ldc2 (v := 100000) hx hb hown (hts _ kc_X2_118) dX2_sample_21 ?_
      refine zk_pi (rest := []) C0 hP hD hS (c_M_isIn l D (tyG g) y.toInt64 (0 : Int64) (100000 : Int64)) kk_X2_63 hl.1 rfl rfl (Nat.le_of_ble_eq_true rfl) ⟨(Nat.le_of_ble_eq_true rfl), (Nat.le_of_ble_eq_true rfl)⟩ rfl rfl ⟨(Nat.le_of_ble_eq_true rfl), (Nat.le_of_ble_eq_true rfl)⟩ dX2_sample_24 (fun r_24 H locs hw_24 hP hS => ?_)
      obtain rfl := hw_24
      refine lv_if_eq (tgt := 44) hx hb dX2_sample_27 (by decide) (fun c_27 => ?_) (fun c_27 => ?_)
      · -- jump at 27
        have c_27 := zb_f c_27
        refine lv_iconst (v := (-1)) hx hb dX2_sample_44 (by decide) ?_
        exact hret (-1) (a, b) _ _ _ _ _ _ (vp_nar_int _) (by simp [c_4, hc1, c_27, hcl]) hP hD hS (Nat.le_of_ble_eq_true rfl) (Nat.le_of_ble_eq_true rfl) dX2_sample_45
      · -- on at 27
        have c_27 := zb_t c_27
        refine lv_iload_n hx hb dX2_sample_30 rfl (lv_at hl 3 rfl) ?_
        refine lv_i2l (v := z.toInt64) hx hb dX2_sample_31 rfl ?_
        refine lv_ldc2 (v := (-1000000)) hx hb hown (hts _ kc_X2_120) dX2_sample_32 ?_
        refine lv_ldc2 (v := 1000000) hx hb hown (hts _ kc_X2_67) dX2_sample_35 ?_
        refine zk_pi (rest := []) C0 hP hD hS (c_M_isIn l D (tyG g) z.toInt64 ((-1000000) : Int64) (1000000 : Int64)) kk_X2_63 hl.1 rfl rfl (Nat.le_of_ble_eq_true rfl) ⟨(Nat.le_of_ble_eq_true rfl), (Nat.le_of_ble_eq_true rfl)⟩ rfl rfl ⟨(Nat.le_of_ble_eq_true rfl), (Nat.le_of_ble_eq_true rfl)⟩ dX2_sample_38 (fun r_38 H locs hw_38 hP hS => ?_)
        obtain rfl := hw_38
        refine lv_if_ne (tgt := 46) hx hb dX2_sample_41 (by decide) (fun c_41 => ?_) (fun c_41 => ?_)
        · -- jump at 41
          have c_41 := zb_t c_41
          refine lv_bipush (v := 8) hx hb dX2_sample_46 (by decide) ?_
          refine lv_iload_n hx hb dX2_sample_48 rfl (lv_at hl 1 rfl) ?_
          refine lv_imul hx hb dX2_sample_49 ?_
          rw [show 8 * (nI w) = nI (8 * w) from (pk_mul 8 w)]
          refine lv_aload_n hx hb dX2_sample_50 rfl (lv_at hl 0 rfl) ?_
          refine va_get (D := D) (ci := 2) (v := .ref (q 9)) (C := RX2) (T := TX2) (N := 22) hx hb hts iw_X2 hown hK hP 0 rfl rfl 17 (by decide) (hts _ kf_X2_44) (fun _ h9 => h9) rfl dX2_sample_51 ?_
          refine lv_iload_n hx hb dX2_sample_54 rfl (lv_at hl 1 rfl) ?_
          refine za_iald (k := w) (f := (a 9)) (v := a 9 w) hx hb hK hP 9 0 rfl rfl rfl (by omega) (by decide) rfl dX2_sample_55 ?_
          rw [hc]
          refine lv_iadd hx hb dX2_sample_56 ?_
          rw [show (nI (8 * w)) + (nI (cn w)) = nI (8 * w + cn w) from (nI_add (8 * w) (cn w))]
          refine lv_istore (lv' := [(4, .int (nI (8 * w + cn w))), (0, .ref (q 0)), (1, .int (nI w)), (2, .int y), (3, .int z)]) hx hb dX2_sample_57 hl (by decide) rfl (fun ls hl => ?_)
          refine lv_aload_n hx hb dX2_sample_59 rfl (lv_at hl 1 rfl) ?_
          refine va_get (D := D) (ci := 2) (v := .ref (q 9)) (C := RX2) (T := TX2) (N := 22) hx hb hts iw_X2 hown hK hP 0 rfl rfl 17 (by decide) (hts _ kf_X2_44) (fun _ h9 => h9) rfl dX2_sample_60 ?_
          refine lv_iload_n hx hb dX2_sample_63 rfl (lv_at hl 2 rfl) ?_
          refine za_iald (k := w) (f := (a 9)) (v := a 9 w) hx hb hK hP 9 0 rfl rfl rfl (by omega) (by decide) rfl dX2_sample_64 ?_
          rw [hc]
          refine lv_if_le (tgt := 83) hx hb dX2_sample_65 (by decide) (fun c_65 => ?_) (fun c_65 => ?_)
          · -- jump at 65
            have hc3 : cn w = 0 := by rcases Nat.eq_zero_or_pos (cn w) with h | h; exact h; exact absurd c_65 (nI_nle h (by omega))
            have hc5 : cn w = 0 ∨ a 10 (8 * w + cn w - 1) < y := Or.inl hc3
            refine lv_bipush (v := 8) hx hb dX2_sample_83 (by decide) ?_
            refine lv_iload_n hx hb dX2_sample_85 rfl (lv_at hl 2 rfl) ?_
            refine lv_imul hx hb dX2_sample_86 ?_
            rw [show 8 * (nI w) = nI (8 * w) from (pk_mul 8 w)]
            refine lv_istore (lv' := [(5, .int (nI (8 * w))), (4, .int (nI (8 * w + cn w))), (0, .ref (q 0)), (1, .int (nI w)), (2, .int y), (3, .int z)]) hx hb dX2_sample_87 hl (by decide) rfl (fun ls hl => ?_)
            have lp_89 : ∀ (t_89 i : Nat) , i + t_89 = (cn w) → (∀ j, j < i → ¬ a 11 (8 * w + j) = z) → ∀ (H : Heap) (locs : List Loc) (ls : Array Slot), va_P D vwCl (wM g q a b) H → va_D A (wM g q a b) → va_S A s.heap H locs → lv_has ls 6 [(5, .int (nI (8 * w + i))), (0, .ref (q 0)), (1, .int (nI w)), (2, .int y), (3, .int z), (4, .int (nI (8 * w + cn w)))] → W p l e rm_M_sample s m args below meth cd_ H locs 0 0 Q (F0 m 89 ls []) := by
              intro t_89
              induction t_89 with
              | zero =>
                intro i hi_89 hne H locs ls hP hD hS hl
                obtain rfl : (cn w) = i := by omega
                refine lv_iload hx hb dX2_sample_89 (lv_at hl 0 rfl) ?_
                refine lv_iload hx hb dX2_sample_91 (lv_at hl 5 rfl) ?_
                refine lv_icmp_ge (tgt := 115) hx hb dX2_sample_93 (by decide) (fun _ => ?_) (fun c_93 => absurd (nI_le (Nat.le_refl _) (by omega)) c_93)
                have hhas : m_has (fun j => a 11 (8 * w + j)) z (cn w) = false := zb_f (m_has_f (f := fun j => a 11 (8 * w + j)) hne).symm
                refine lv_aload_n hx hb dX2_sample_115 rfl (lv_at hl 1 rfl) ?_
                refine va_get (D := D) (ci := 2) (v := .ref (q 10)) (C := RX2) (T := TX2) (N := 22) hx hb hts iw_X2 hown hK hP 0 rfl rfl 18 (by decide) (hts _ kf_X2_47) (fun _ h9 => h9) rfl dX2_sample_116 ?_
                refine lv_iload hx hb dX2_sample_119 (lv_at hl 5 rfl) ?_
                refine lv_iload_n hx hb dX2_sample_121 rfl (lv_at hl 3 rfl) ?_
                refine za_iast (k := (8 * w + cn w)) (x := y) (f := (a 10)) hx hb hK hP hD hS 10 0 rfl rfl rfl (by omega) (by decide) dX2_sample_122 (fun H locs hP hD hS => ?_)
                have hP : va_P D vwCl (wM g q (va_up a 10 (upd (a 10) (8 * w + cn w) y)) b) H := hP
                have hD : va_D A (wM g q (va_up a 10 (upd (a 10) (8 * w + cn w) y)) b) := hD
                refine lv_aload_n hx hb dX2_sample_123 rfl (lv_at hl 1 rfl) ?_
                refine va_get (D := D) (ci := 2) (v := .ref (q 11)) (C := RX2) (T := TX2) (N := 22) hx hb hts iw_X2 hown hK hP 0 rfl rfl 19 (by decide) (hts _ kf_X2_50) (fun _ h9 => h9) rfl dX2_sample_124 ?_
                refine lv_iload hx hb dX2_sample_127 (lv_at hl 5 rfl) ?_
                refine lv_iload_n hx hb dX2_sample_129 rfl (lv_at hl 4 rfl) ?_
                refine za_iast (k := (8 * w + cn w)) (x := z) (f := (a 11)) hx hb hK hP hD hS 11 0 rfl rfl rfl (by omega) (by decide) dX2_sample_130 (fun H locs hP hD hS => ?_)
                have hP : va_P D vwCl (wM g q (va_up (va_up a 10 (upd (a 10) (8 * w + cn w) y)) 11 (upd (a 11) (8 * w + cn w) z)) b) H := hP
                have hD : va_D A (wM g q (va_up (va_up a 10 (upd (a 10) (8 * w + cn w) y)) 11 (upd (a 11) (8 * w + cn w) z)) b) := hD
                refine lv_aload_n hx hb dX2_sample_131 rfl (lv_at hl 1 rfl) ?_
                refine va_get (D := D) (ci := 2) (v := .ref (q 9)) (C := RX2) (T := TX2) (N := 22) hx hb hts iw_X2 hown hK hP 0 rfl rfl 17 (by decide) (hts _ kf_X2_44) (fun _ h9 => h9) rfl dX2_sample_132 ?_
                refine lv_iload_n hx hb dX2_sample_135 rfl (lv_at hl 2 rfl) ?_
                refine lv_dup2_11 hx hb dX2_sample_136 rfl rfl ?_
                refine za_iald (k := w) (f := (a 9)) (v := a 9 w) hx hb hK hP 9 0 rfl rfl rfl (by omega) (by decide) rfl dX2_sample_137 ?_
                rw [hc]
                refine lv_iconst (v := 1) hx hb dX2_sample_138 (by decide) ?_
                refine lv_iadd hx hb dX2_sample_139 ?_
                rw [show (nI (cn w)) + 1 = nI (cn w + 1) from (nI_1 (cn w))]
                refine za_iast (k := w) (x := nI (cn w + 1)) (f := (a 9)) hx hb hK hP hD hS 9 0 rfl rfl rfl (by omega) (by decide) dX2_sample_140 (fun H locs hP hD hS => ?_)
                have hP : va_P D vwCl (wM g q (va_up (va_up (va_up a 9 (upd (a 9) w (nI (cn w + 1)))) 10 (upd (a 10) (8 * w + cn w) y)) 11 (upd (a 11) (8 * w + cn w) z)) b) H := hP
                have hD : va_D A (wM g q (va_up (va_up (va_up a 9 (upd (a 9) w (nI (cn w + 1)))) 10 (upd (a 10) (8 * w + cn w) y)) 11 (upd (a 11) (8 * w + cn w) z)) b) := hD
                refine lv_aload_n hx hb dX2_sample_141 rfl (lv_at hl 1 rfl) ?_
                refine va_get (D := D) (ci := 2) (v := .ref (q 9)) (C := RX2) (T := TX2) (N := 22) hx hb hts iw_X2 hown hK hP 0 rfl rfl 17 (by decide) (hts _ kf_X2_44) (fun _ h9 => h9) rfl dX2_sample_142 ?_
                refine lv_iload_n hx hb dX2_sample_145 rfl (lv_at hl 2 rfl) ?_
                refine za_iald (k := w) (f := (upd (a 9) w (nI (cn w + 1)))) (v := nI (cn w + 1)) hx hb hK hP 9 0 rfl rfl rfl (by omega) (by decide) pk_us dX2_sample_146 ?_
                exact hret (nI (cn w + 1)) (va_up (va_up (va_up a 9 (upd (a 9) w (nI (cn w + 1)))) 10 (upd (a 10) (8 * w + cn w) y)) 11 (upd (a 11) (8 * w + cn w) z), b) _ _ _ _ _ _ (vp_nar_int _) (by simp [c_4, hc1, c_27, c_41, hc5, hcl, hhas]) hP hD hS (Nat.le_of_ble_eq_true rfl) (Nat.le_of_ble_eq_true rfl) dX2_sample_147
              | succ t_89 ih_89 =>
                intro i hi_89 hne H locs ls hP hD hS hl
                refine lv_iload hx hb dX2_sample_89 (lv_at hl 0 rfl) ?_
                refine lv_iload hx hb dX2_sample_91 (lv_at hl 5 rfl) ?_
                refine lv_icmp_ge (tgt := 115) hx hb dX2_sample_93 (by decide) (fun c_93 => absurd c_93 (nI_ge (by omega) (by omega))) (fun _ => ?_)
                refine lv_aload_n hx hb dX2_sample_96 rfl (lv_at hl 1 rfl) ?_
                refine va_get (D := D) (ci := 2) (v := .ref (q 11)) (C := RX2) (T := TX2) (N := 22) hx hb hts iw_X2 hown hK hP 0 rfl rfl 19 (by decide) (hts _ kf_X2_50) (fun _ h9 => h9) rfl dX2_sample_97 ?_
                refine lv_iload hx hb dX2_sample_100 (lv_at hl 0 rfl) ?_
                refine za_iald (k := (8 * w + i)) (f := (a 11)) (v := a 11 (8 * w + i)) hx hb hK hP 11 0 rfl rfl rfl (by omega) (by decide) rfl dX2_sample_102 ?_
                refine lv_iload_n hx hb dX2_sample_103 rfl (lv_at hl 4 rfl) ?_
                refine lv_icmp_ne (tgt := 109) hx hb dX2_sample_104 (by decide) (fun c_104 => ?_) (fun c_104 => ?_)
                · -- jump at 104
                  refine lv_iinc (v := nI ((8 * w + i) + 1)) (lv' := [(5, .int (nI ((8 * w + i) + 1))), (0, .ref (q 0)), (1, .int (nI w)), (2, .int y), (3, .int z), (4, .int (nI (8 * w + cn w)))]) hx hb dX2_sample_109 hl (k := 0) rfl (nI_1 (8 * w + i)) (by decide) rfl (fun ls hl => ?_)
                  refine lv_goto (tgt := 89) hx hb dX2_sample_112 (by decide) ?_
                  have hP : va_P D vwCl (wM g q a b) _ := hP
                  have hD : va_D A (wM g q a b) := hD
                  have hl : lv_has ls 6 [(5, .int (nI (8 * w + (i + 1)))), (0, .ref (q 0)), (1, .int (nI w)), (2, .int y), (3, .int z), (4, .int (nI (8 * w + cn w)))] := lv_sub hl [0, 1, 2, 3, 4, 5] rfl
                  exact ih_89 (i + 1)  (by omega) (lt_s hne c_104) _ _ _ hP hD hS hl
                · -- on at 104
                  have hhas : m_has (fun j => a 11 (8 * w + j)) z (cn w) = true := zb_t (fun h => absurd ((m_has_t (f := fun j => a 11 (8 * w + j)) (c := cn w) (i := i) (by omega) c_104).trans h) (by decide))
                  refine lv_iconst (v := (-1)) hx hb dX2_sample_107 (by decide) ?_
                  exact hret (-1) (a, b) _ _ _ _ _ _ (vp_nar_int _) (by simp [c_4, hc1, c_27, c_41, hc5, hcl, hhas]) hP hD hS (Nat.le_of_ble_eq_true rfl) (Nat.le_of_ble_eq_true rfl) dX2_sample_108
            exact lp_89 ((cn w) - 0) 0  (by omega) (fun _ h => absurd h (Nat.not_lt_zero _)) _ _ _ hP hD hS (lv_sub hl [0, 2, 3, 4, 5, 1] rfl)
          · -- on at 65
            have hc3 : ¬ cn w = 0 := fun h => c_65 (by rw [h]; decide)
            refine lv_iload_n hx hb dX2_sample_68 rfl (lv_at hl 3 rfl) ?_
            refine lv_aload_n hx hb dX2_sample_69 rfl (lv_at hl 1 rfl) ?_
            refine va_get (D := D) (ci := 2) (v := .ref (q 10)) (C := RX2) (T := TX2) (N := 22) hx hb hts iw_X2 hown hK hP 0 rfl rfl 18 (by decide) (hts _ kf_X2_47) (fun _ h9 => h9) rfl dX2_sample_70 ?_
            refine lv_iload hx hb dX2_sample_73 (lv_at hl 0 rfl) ?_
            refine lv_iconst (v := 1) hx hb dX2_sample_75 (by decide) ?_
            refine lv_isub hx hb dX2_sample_76 ?_
            rw [show (nI (8 * w + cn w)) - 1 = nI (8 * w + cn w - 1) from (pk_sub (a := 8 * w + cn w) (b := 1) (by omega))]
            refine za_iald (k := (8 * w + cn w - 1)) (f := (a 10)) (v := a 10 (8 * w + cn w - 1)) hx hb hK hP 10 0 rfl rfl rfl (by omega) (by decide) rfl dX2_sample_77 ?_
            refine lv_icmp_gt (tgt := 83) hx hb dX2_sample_78 (by decide) (fun c_78 => ?_) (fun c_78 => ?_)
            · -- jump at 78
              have hc5 : cn w = 0 ∨ a 10 (8 * w + cn w - 1) < y := Or.inr c_78
              refine lv_bipush (v := 8) hx hb dX2_sample_83 (by decide) ?_
              refine lv_iload_n hx hb dX2_sample_85 rfl (lv_at hl 2 rfl) ?_
              refine lv_imul hx hb dX2_sample_86 ?_
              rw [show 8 * (nI w) = nI (8 * w) from (pk_mul 8 w)]
              refine lv_istore (lv' := [(5, .int (nI (8 * w))), (4, .int (nI (8 * w + cn w))), (0, .ref (q 0)), (1, .int (nI w)), (2, .int y), (3, .int z)]) hx hb dX2_sample_87 hl (by decide) rfl (fun ls hl => ?_)
              have lp_89 : ∀ (t_89 i : Nat) , i + t_89 = (cn w) → (∀ j, j < i → ¬ a 11 (8 * w + j) = z) → ∀ (H : Heap) (locs : List Loc) (ls : Array Slot), va_P D vwCl (wM g q a b) H → va_D A (wM g q a b) → va_S A s.heap H locs → lv_has ls 6 [(5, .int (nI (8 * w + i))), (0, .ref (q 0)), (1, .int (nI w)), (2, .int y), (3, .int z), (4, .int (nI (8 * w + cn w)))] → W p l e rm_M_sample s m args below meth cd_ H locs 0 0 Q (F0 m 89 ls []) := by
                intro t_89
                induction t_89 with
                | zero =>
                  intro i hi_89 hne H locs ls hP hD hS hl
                  obtain rfl : (cn w) = i := by omega
                  refine lv_iload hx hb dX2_sample_89 (lv_at hl 0 rfl) ?_
                  refine lv_iload hx hb dX2_sample_91 (lv_at hl 5 rfl) ?_
                  refine lv_icmp_ge (tgt := 115) hx hb dX2_sample_93 (by decide) (fun _ => ?_) (fun c_93 => absurd (nI_le (Nat.le_refl _) (by omega)) c_93)
                  have hhas : m_has (fun j => a 11 (8 * w + j)) z (cn w) = false := zb_f (m_has_f (f := fun j => a 11 (8 * w + j)) hne).symm
                  refine lv_aload_n hx hb dX2_sample_115 rfl (lv_at hl 1 rfl) ?_
                  refine va_get (D := D) (ci := 2) (v := .ref (q 10)) (C := RX2) (T := TX2) (N := 22) hx hb hts iw_X2 hown hK hP 0 rfl rfl 18 (by decide) (hts _ kf_X2_47) (fun _ h9 => h9) rfl dX2_sample_116 ?_
                  refine lv_iload hx hb dX2_sample_119 (lv_at hl 5 rfl) ?_
                  refine lv_iload_n hx hb dX2_sample_121 rfl (lv_at hl 3 rfl) ?_
                  refine za_iast (k := (8 * w + cn w)) (x := y) (f := (a 10)) hx hb hK hP hD hS 10 0 rfl rfl rfl (by omega) (by decide) dX2_sample_122 (fun H locs hP hD hS => ?_)
                  have hP : va_P D vwCl (wM g q (va_up a 10 (upd (a 10) (8 * w + cn w) y)) b) H := hP
                  have hD : va_D A (wM g q (va_up a 10 (upd (a 10) (8 * w + cn w) y)) b) := hD
                  refine lv_aload_n hx hb dX2_sample_123 rfl (lv_at hl 1 rfl) ?_
                  refine va_get (D := D) (ci := 2) (v := .ref (q 11)) (C := RX2) (T := TX2) (N := 22) hx hb hts iw_X2 hown hK hP 0 rfl rfl 19 (by decide) (hts _ kf_X2_50) (fun _ h9 => h9) rfl dX2_sample_124 ?_
                  refine lv_iload hx hb dX2_sample_127 (lv_at hl 5 rfl) ?_
                  refine lv_iload_n hx hb dX2_sample_129 rfl (lv_at hl 4 rfl) ?_
                  refine za_iast (k := (8 * w + cn w)) (x := z) (f := (a 11)) hx hb hK hP hD hS 11 0 rfl rfl rfl (by omega) (by decide) dX2_sample_130 (fun H locs hP hD hS => ?_)
                  have hP : va_P D vwCl (wM g q (va_up (va_up a 10 (upd (a 10) (8 * w + cn w) y)) 11 (upd (a 11) (8 * w + cn w) z)) b) H := hP
                  have hD : va_D A (wM g q (va_up (va_up a 10 (upd (a 10) (8 * w + cn w) y)) 11 (upd (a 11) (8 * w + cn w) z)) b) := hD
                  refine lv_aload_n hx hb dX2_sample_131 rfl (lv_at hl 1 rfl) ?_
                  refine va_get (D := D) (ci := 2) (v := .ref (q 9)) (C := RX2) (T := TX2) (N := 22) hx hb hts iw_X2 hown hK hP 0 rfl rfl 17 (by decide) (hts _ kf_X2_44) (fun _ h9 => h9) rfl dX2_sample_132 ?_
                  refine lv_iload_n hx hb dX2_sample_135 rfl (lv_at hl 2 rfl) ?_
                  refine lv_dup2_11 hx hb dX2_sample_136 rfl rfl ?_
                  refine za_iald (k := w) (f := (a 9)) (v := a 9 w) hx hb hK hP 9 0 rfl rfl rfl (by omega) (by decide) rfl dX2_sample_137 ?_
                  rw [hc]
                  refine lv_iconst (v := 1) hx hb dX2_sample_138 (by decide) ?_
                  refine lv_iadd hx hb dX2_sample_139 ?_
                  rw [show (nI (cn w)) + 1 = nI (cn w + 1) from (nI_1 (cn w))]
                  refine za_iast (k := w) (x := nI (cn w + 1)) (f := (a 9)) hx hb hK hP hD hS 9 0 rfl rfl rfl (by omega) (by decide) dX2_sample_140 (fun H locs hP hD hS => ?_)
                  have hP : va_P D vwCl (wM g q (va_up (va_up (va_up a 9 (upd (a 9) w (nI (cn w + 1)))) 10 (upd (a 10) (8 * w + cn w) y)) 11 (upd (a 11) (8 * w + cn w) z)) b) H := hP
                  have hD : va_D A (wM g q (va_up (va_up (va_up a 9 (upd (a 9) w (nI (cn w + 1)))) 10 (upd (a 10) (8 * w + cn w) y)) 11 (upd (a 11) (8 * w + cn w) z)) b) := hD
                  refine lv_aload_n hx hb dX2_sample_141 rfl (lv_at hl 1 rfl) ?_
                  refine va_get (D := D) (ci := 2) (v := .ref (q 9)) (C := RX2) (T := TX2) (N := 22) hx hb hts iw_X2 hown hK hP 0 rfl rfl 17 (by decide) (hts _ kf_X2_44) (fun _ h9 => h9) rfl dX2_sample_142 ?_
                  refine lv_iload_n hx hb dX2_sample_145 rfl (lv_at hl 2 rfl) ?_
                  refine za_iald (k := w) (f := (upd (a 9) w (nI (cn w + 1)))) (v := nI (cn w + 1)) hx hb hK hP 9 0 rfl rfl rfl (by omega) (by decide) pk_us dX2_sample_146 ?_
                  exact hret (nI (cn w + 1)) (va_up (va_up (va_up a 9 (upd (a 9) w (nI (cn w + 1)))) 10 (upd (a 10) (8 * w + cn w) y)) 11 (upd (a 11) (8 * w + cn w) z), b) _ _ _ _ _ _ (vp_nar_int _) (by simp [c_4, hc1, c_27, c_41, hc5, hcl, hhas]) hP hD hS (Nat.le_of_ble_eq_true rfl) (Nat.le_of_ble_eq_true rfl) dX2_sample_147
                | succ t_89 ih_89 =>
                  intro i hi_89 hne H locs ls hP hD hS hl
                  refine lv_iload hx hb dX2_sample_89 (lv_at hl 0 rfl) ?_
                  refine lv_iload hx hb dX2_sample_91 (lv_at hl 5 rfl) ?_
                  refine lv_icmp_ge (tgt := 115) hx hb dX2_sample_93 (by decide) (fun c_93 => absurd c_93 (nI_ge (by omega) (by omega))) (fun _ => ?_)
                  refine lv_aload_n hx hb dX2_sample_96 rfl (lv_at hl 1 rfl) ?_
                  refine va_get (D := D) (ci := 2) (v := .ref (q 11)) (C := RX2) (T := TX2) (N := 22) hx hb hts iw_X2 hown hK hP 0 rfl rfl 19 (by decide) (hts _ kf_X2_50) (fun _ h9 => h9) rfl dX2_sample_97 ?_
                  refine lv_iload hx hb dX2_sample_100 (lv_at hl 0 rfl) ?_
                  refine za_iald (k := (8 * w + i)) (f := (a 11)) (v := a 11 (8 * w + i)) hx hb hK hP 11 0 rfl rfl rfl (by omega) (by decide) rfl dX2_sample_102 ?_
                  refine lv_iload_n hx hb dX2_sample_103 rfl (lv_at hl 4 rfl) ?_
                  refine lv_icmp_ne (tgt := 109) hx hb dX2_sample_104 (by decide) (fun c_104 => ?_) (fun c_104 => ?_)
                  · -- jump at 104
                    refine lv_iinc (v := nI ((8 * w + i) + 1)) (lv' := [(5, .int (nI ((8 * w + i) + 1))), (0, .ref (q 0)), (1, .int (nI w)), (2, .int y), (3, .int z), (4, .int (nI (8 * w + cn w)))]) hx hb dX2_sample_109 hl (k := 0) rfl (nI_1 (8 * w + i)) (by decide) rfl (fun ls hl => ?_)
                    refine lv_goto (tgt := 89) hx hb dX2_sample_112 (by decide) ?_
                    have hP : va_P D vwCl (wM g q a b) _ := hP
                    have hD : va_D A (wM g q a b) := hD
                    have hl : lv_has ls 6 [(5, .int (nI (8 * w + (i + 1)))), (0, .ref (q 0)), (1, .int (nI w)), (2, .int y), (3, .int z), (4, .int (nI (8 * w + cn w)))] := lv_sub hl [0, 1, 2, 3, 4, 5] rfl
                    exact ih_89 (i + 1)  (by omega) (lt_s hne c_104) _ _ _ hP hD hS hl
                  · -- on at 104
                    have hhas : m_has (fun j => a 11 (8 * w + j)) z (cn w) = true := zb_t (fun h => absurd ((m_has_t (f := fun j => a 11 (8 * w + j)) (c := cn w) (i := i) (by omega) c_104).trans h) (by decide))
                    refine lv_iconst (v := (-1)) hx hb dX2_sample_107 (by decide) ?_
                    exact hret (-1) (a, b) _ _ _ _ _ _ (vp_nar_int _) (by simp [c_4, hc1, c_27, c_41, hc5, hcl, hhas]) hP hD hS (Nat.le_of_ble_eq_true rfl) (Nat.le_of_ble_eq_true rfl) dX2_sample_108
              exact lp_89 ((cn w) - 0) 0  (by omega) (fun _ h => absurd h (Nat.not_lt_zero _)) _ _ _ hP hD hS (lv_sub hl [0, 2, 3, 4, 5, 1] rfl)
            · -- on at 78
              have hc5 : ¬ (cn w = 0 ∨ a 10 (8 * w + cn w - 1) < y) := fun h => h.elim hc3 c_78
              refine lv_iconst (v := (-1)) hx hb dX2_sample_81 (by decide) ?_
              exact hret (-1) (a, b) _ _ _ _ _ _ (vp_nar_int _) (by simp [c_4, hc1, c_27, c_41, hc5, hcl]) hP hD hS (Nat.le_of_ble_eq_true rfl) (Nat.le_of_ble_eq_true rfl) dX2_sample_82
        · -- on at 41
          have c_41 := zb_f c_41
          refine lv_iconst (v := (-1)) hx hb dX2_sample_44 (by decide) ?_
          exact hret (-1) (a, b) _ _ _ _ _ _ (vp_nar_int _) (by simp [c_4, hc1, c_27, c_41, hcl]) hP hD hS (Nat.le_of_ble_eq_true rfl) (Nat.le_of_ble_eq_true rfl) dX2_sample_45
def rm_M_trend : Room := { frames := 1, cells := 0, slots := 0, locals := 20 }
set_option maxHeartbeats 4000000 in
set_option maxRecDepth 100000 in
theorem c_M_trend_p (l : Launch) (D : va_G) (g : Nat → ClassId) (q : Nat → Nat) (a : Nat → Nat → Int32) (b : Nat → Nat → Int64) (w : Nat) (hw4 : w < 4) (c : Nat) (hc : a 9 w = nI c) (hc8 : c ≤ 8) (hww : m_isWell (nI w) = true) : zc_i l D (tyG g) yX2_trend cX2_trend 5 (some .int) rm_M_trend [.ref (q 0), .int (nI w)] (wM g q a b) (fun (r : Int32) (u : Unit) => r = r_to (fun j => a 11 (8 * w + j)) c c) (fun _ => wM g q a b) 0 0 := by
  refine zi_of (by decide) (Nat.le_of_ble_eq_true rfl) rfl ?_
  intro p e s m args below meth cd_ A Q ls C0 hnm hP hD hS hl hret
  obtain ⟨hx, hb, hr, hml, hlocks, hown, hts, hK, hA, hN⟩ := id C0
  have hl : lv_has ls 5 [(0, .ref (q 0)), (1, .int (nI w))] := hl
  refine lv_iconst (v := 0) hx hb dX2_trend_0 (by decide) ?_
  refine lv_istore_n (lv' := [(2, .int 0), (0, .ref (q 0)), (1, .int (nI w))]) hx hb dX2_trend_1 rfl hl (by decide) rfl (fun ls hl => ?_)
  refine lv_iconst (v := 0) hx hb dX2_trend_2 (by decide) ?_
  refine lv_istore_n (lv' := [(3, .int 0), (2, .int 0), (0, .ref (q 0)), (1, .int (nI w))]) hx hb dX2_trend_3 rfl hl (by decide) rfl (fun ls hl => ?_)
  have lp_4 : ∀ (t_4 i : Nat) , i + t_4 = c → ∀ (H : Heap) (locs : List Loc) (ls : Array Slot), va_P D vwCl (wM g q a b) H → va_D A (wM g q a b) → va_S A s.heap H locs → lv_has ls 5 [(3, .int (nI i)), (2, .int (r_to (fun j => a 11 (8 * w + j)) c i)), (0, .ref (q 0)), (1, .int (nI w))] → W p l e rm_M_trend s m args below meth cd_ H locs 0 0 Q (F0 m 4 ls []) := by
    intro t_4
    induction t_4 with
    | zero =>
      intro i hi_4 H locs ls hP hD hS hl
      obtain rfl : c = i := by omega
      refine lv_iload_n hx hb dX2_trend_4 rfl (lv_at hl 3 rfl) ?_
      refine zk_pi (rest := []) C0 hP hD hS (c_M_isWell l D (tyG g) (nI w)) kk_X2_115 hl.1 rfl rfl (Nat.le_of_ble_eq_true rfl) ⟨(Nat.le_of_ble_eq_true rfl), (Nat.le_of_ble_eq_true rfl)⟩ rfl rfl ⟨(Nat.le_of_ble_eq_true rfl), (Nat.le_of_ble_eq_true rfl)⟩ dX2_trend_5 (fun r_5 H locs hw_5 hP hS => ?_)
      obtain rfl := hw_5
      refine lv_if_eq (tgt := 83) hx hb dX2_trend_8 (by decide) (fun c_8 => absurd c_8 (by rw [hww]; decide)) (fun _ => ?_)
      refine lv_iload_n hx hb dX2_trend_11 rfl (lv_at hl 0 rfl) ?_
      refine lv_aload_n hx hb dX2_trend_12 rfl (lv_at hl 2 rfl) ?_
      refine va_get (D := D) (ci := 2) (v := .ref (q 9)) (C := RX2) (T := TX2) (N := 22) hx hb hts iw_X2 hown hK hP 0 rfl rfl 17 (by decide) (hts _ kf_X2_44) (fun _ h9 => h9) rfl dX2_trend_13 ?_
      refine lv_iload_n hx hb dX2_trend_16 rfl (lv_at hl 3 rfl) ?_
      refine za_iald (k := w) (f := (a 9)) (v := a 9 w) hx hb hK hP 9 0 rfl rfl rfl (by omega) (by decide) rfl dX2_trend_17 ?_
      rw [hc]
      refine lv_icmp_ge (tgt := 83) hx hb dX2_trend_18 (by decide) (fun _ => ?_) (fun c_18 => absurd (nI_le (Nat.le_refl _) (by omega)) c_18)
      refine lv_iload_n hx hb dX2_trend_83 rfl (lv_at hl 1 rfl) ?_
      exact hret (r_to (fun j => a 11 (8 * w + j)) c c) () _ _ _ _ _ _ (vp_nar_int _) rfl hP hD hS (Nat.le_of_ble_eq_true rfl) (Nat.le_of_ble_eq_true rfl) dX2_trend_84
    | succ t_4 ih_4 =>
      intro i hi_4 H locs ls hP hD hS hl
      refine lv_iload_n hx hb dX2_trend_4 rfl (lv_at hl 3 rfl) ?_
      refine zk_pi (rest := []) C0 hP hD hS (c_M_isWell l D (tyG g) (nI w)) kk_X2_115 hl.1 rfl rfl (Nat.le_of_ble_eq_true rfl) ⟨(Nat.le_of_ble_eq_true rfl), (Nat.le_of_ble_eq_true rfl)⟩ rfl rfl ⟨(Nat.le_of_ble_eq_true rfl), (Nat.le_of_ble_eq_true rfl)⟩ dX2_trend_5 (fun r_5 H locs hw_5 hP hS => ?_)
      obtain rfl := hw_5
      refine lv_if_eq (tgt := 83) hx hb dX2_trend_8 (by decide) (fun c_8 => absurd c_8 (by rw [hww]; decide)) (fun _ => ?_)
      refine lv_iload_n hx hb dX2_trend_11 rfl (lv_at hl 0 rfl) ?_
      refine lv_aload_n hx hb dX2_trend_12 rfl (lv_at hl 2 rfl) ?_
      refine va_get (D := D) (ci := 2) (v := .ref (q 9)) (C := RX2) (T := TX2) (N := 22) hx hb hts iw_X2 hown hK hP 0 rfl rfl 17 (by decide) (hts _ kf_X2_44) (fun _ h9 => h9) rfl dX2_trend_13 ?_
      refine lv_iload_n hx hb dX2_trend_16 rfl (lv_at hl 3 rfl) ?_
      refine za_iald (k := w) (f := (a 9)) (v := a 9 w) hx hb hK hP 9 0 rfl rfl rfl (by omega) (by decide) rfl dX2_trend_17 ?_
      rw [hc]
      refine lv_icmp_ge (tgt := 83) hx hb dX2_trend_18 (by decide) (fun c_18 => absurd c_18 (nI_ge (by omega) (by omega))) (fun _ => ?_)
      refine lv_iload_n hx hb dX2_trend_21 rfl (lv_at hl 0 rfl) ?_
      refine lv_iconst (v := 1) hx hb dX2_trend_22 (by decide) ?_
      refine lv_iadd hx hb dX2_trend_23 ?_
      rw [show (nI i) + 1 = nI (i + 1) from (nI_1 i)]
      refine lv_istore (lv' := [(4, .int (nI (i + 1))), (3, .int (nI i)), (2, .int (r_to (fun j => a 11 (8 * w + j)) c i)), (0, .ref (q 0)), (1, .int (nI w))]) hx hb dX2_trend_24 hl (by decide) rfl (fun ls hl => ?_)
      have lp_26 : ∀ (t_26 j : Nat) , j + t_26 = (c - (i + 1)) → ∀ (H : Heap) (locs : List Loc) (ls : Array Slot), va_P D vwCl (wM g q a b) H → va_D A (wM g q a b) → va_S A s.heap H locs → lv_has ls 5 [(4, .int (nI (i + 1 + j))), (2, .int (r_ti (fun j => a 11 (8 * w + j)) i (r_to (fun j => a 11 (8 * w + j)) c i) j)), (0, .ref (q 0)), (1, .int (nI w)), (3, .int (nI i))] → W p l e rm_M_trend s m args below meth cd_ H locs 0 0 Q (F0 m 26 ls []) := by
        intro t_26
        induction t_26 with
        | zero =>
          intro j hi_26 H locs ls hP hD hS hl
          obtain rfl : (c - (i + 1)) = j := by omega
          refine lv_iload hx hb dX2_trend_26 (lv_at hl 0 rfl) ?_
          refine lv_aload_n hx hb dX2_trend_28 rfl (lv_at hl 2 rfl) ?_
          refine va_get (D := D) (ci := 2) (v := .ref (q 9)) (C := RX2) (T := TX2) (N := 22) hx hb hts iw_X2 hown hK hP 0 rfl rfl 17 (by decide) (hts _ kf_X2_44) (fun _ h9 => h9) rfl dX2_trend_29 ?_
          refine lv_iload_n hx hb dX2_trend_32 rfl (lv_at hl 3 rfl) ?_
          refine za_iald (k := w) (f := (a 9)) (v := a 9 w) hx hb hK hP 9 0 rfl rfl rfl (by omega) (by decide) rfl dX2_trend_33 ?_
          rw [hc]
          refine lv_icmp_ge (tgt := 77) hx hb dX2_trend_34 (by decide) (fun _ => ?_) (fun c_34 => absurd (nI_le (by omega) (by omega)) c_34)
          refine lv_iinc (v := nI (i + 1)) (lv' := [(3, .int (nI (i + 1))), (4, .int (nI (i + 1 + (c - (i + 1))))), (2, .int (r_ti (fun j => a 11 (8 * w + j)) i (r_to (fun j => a 11 (8 * w + j)) c i) (c - (i + 1)))), (0, .ref (q 0)), (1, .int (nI w))]) hx hb dX2_trend_77 hl (k := 4) rfl (nI_1 i) (by decide) rfl (fun ls hl => ?_)
          refine lv_goto (tgt := 4) hx hb dX2_trend_80 (by decide) ?_
          have hP : va_P D vwCl (wM g q a b) _ := hP
          have hD : va_D A (wM g q a b) := hD
          have hl : lv_has ls 5 [(3, .int (nI (i + 1))), (2, .int (r_to (fun j => a 11 (8 * w + j)) c (i + 1))), (0, .ref (q 0)), (1, .int (nI w))] := lv_sub hl [0, 2, 3, 4] rfl
          exact ih_4 (i + 1)  (by omega)  _ _ _ hP hD hS hl
        | succ t_26 ih_26 =>
          intro j hi_26 H locs ls hP hD hS hl
          refine lv_iload hx hb dX2_trend_26 (lv_at hl 0 rfl) ?_
          refine lv_aload_n hx hb dX2_trend_28 rfl (lv_at hl 2 rfl) ?_
          refine va_get (D := D) (ci := 2) (v := .ref (q 9)) (C := RX2) (T := TX2) (N := 22) hx hb hts iw_X2 hown hK hP 0 rfl rfl 17 (by decide) (hts _ kf_X2_44) (fun _ h9 => h9) rfl dX2_trend_29 ?_
          refine lv_iload_n hx hb dX2_trend_32 rfl (lv_at hl 3 rfl) ?_
          refine za_iald (k := w) (f := (a 9)) (v := a 9 w) hx hb hK hP 9 0 rfl rfl rfl (by omega) (by decide) rfl dX2_trend_33 ?_
          rw [hc]
          refine lv_icmp_ge (tgt := 77) hx hb dX2_trend_34 (by decide) (fun c_34 => absurd c_34 (nI_ge (by omega) (by omega))) (fun _ => ?_)
          refine lv_iload_n hx hb dX2_trend_37 rfl (lv_at hl 1 rfl) ?_
          refine lv_aload_n hx hb dX2_trend_38 rfl (lv_at hl 2 rfl) ?_
          refine va_get (D := D) (ci := 2) (v := .ref (q 11)) (C := RX2) (T := TX2) (N := 22) hx hb hts iw_X2 hown hK hP 0 rfl rfl 19 (by decide) (hts _ kf_X2_50) (fun _ h9 => h9) rfl dX2_trend_39 ?_
          refine lv_bipush (v := 8) hx hb dX2_trend_42 (by decide) ?_
          refine lv_iload_n hx hb dX2_trend_44 rfl (lv_at hl 3 rfl) ?_
          refine lv_imul hx hb dX2_trend_45 ?_
          rw [show 8 * (nI w) = nI (8 * w) from (pk_mul 8 w)]
          refine lv_iload hx hb dX2_trend_46 (lv_at hl 0 rfl) ?_
          refine lv_iadd hx hb dX2_trend_48 ?_
          rw [show (nI (8 * w)) + (nI (i + 1 + j)) = nI (8 * w + (i + 1 + j)) from (nI_add (8 * w) (i + 1 + j))]
          refine za_iald (k := (8 * w + (i + 1 + j))) (f := (a 11)) (v := a 11 (8 * w + (i + 1 + j))) hx hb hK hP 11 0 rfl rfl rfl (by omega) (by decide) rfl dX2_trend_49 ?_
          refine lv_aload_n hx hb dX2_trend_50 rfl (lv_at hl 2 rfl) ?_
          refine va_get (D := D) (ci := 2) (v := .ref (q 11)) (C := RX2) (T := TX2) (N := 22) hx hb hts iw_X2 hown hK hP 0 rfl rfl 19 (by decide) (hts _ kf_X2_50) (fun _ h9 => h9) rfl dX2_trend_51 ?_
          refine lv_bipush (v := 8) hx hb dX2_trend_54 (by decide) ?_
          refine lv_iload_n hx hb dX2_trend_56 rfl (lv_at hl 3 rfl) ?_
          refine lv_imul hx hb dX2_trend_57 ?_
          rw [show 8 * (nI w) = nI (8 * w) from (pk_mul 8 w)]
          refine lv_iload_n hx hb dX2_trend_58 rfl (lv_at hl 4 rfl) ?_
          refine lv_iadd hx hb dX2_trend_59 ?_
          rw [show (nI (8 * w)) + (nI i) = nI (8 * w + i) from (nI_add (8 * w) i)]
          refine za_iald (k := (8 * w + i)) (f := (a 11)) (v := a 11 (8 * w + i)) hx hb hK hP 11 0 rfl rfl rfl (by omega) (by decide) rfl dX2_trend_60 ?_
          refine lv_icmp_le (tgt := 68) hx hb dX2_trend_61 (by decide) (fun c_61 => ?_) (fun c_61 => ?_)
          · -- jump at 61
            refine lv_iconst (v := (-1)) hx hb dX2_trend_68 (by decide) ?_
            refine lv_topi (fun t9_1 et9_1 => ?_)
            obtain rfl : t9_1 = if a 11 (8 * w + (i + 1 + j)) ≤ a 11 (8 * w + i) then (-1) else 1 := et9_1.trans (if_pos c_61).symm
            refine lv_iadd hx hb dX2_trend_69 ?_
            refine lv_istore_n (lv' := [(2, .int ((r_ti (fun j => a 11 (8 * w + j)) i (r_to (fun j => a 11 (8 * w + j)) c i) j) + (if a 11 (8 * w + (i + 1 + j)) ≤ a 11 (8 * w + i) then (-1) else 1))), (4, .int (nI (i + 1 + j))), (0, .ref (q 0)), (1, .int (nI w)), (3, .int (nI i))]) hx hb dX2_trend_70 rfl hl (by decide) rfl (fun ls hl => ?_)
            refine lv_iinc (v := nI ((i + 1 + j) + 1)) (lv' := [(4, .int (nI ((i + 1 + j) + 1))), (2, .int ((r_ti (fun j => a 11 (8 * w + j)) i (r_to (fun j => a 11 (8 * w + j)) c i) j) + (if a 11 (8 * w + (i + 1 + j)) ≤ a 11 (8 * w + i) then (-1) else 1))), (0, .ref (q 0)), (1, .int (nI w)), (3, .int (nI i))]) hx hb dX2_trend_71 hl (k := 1) rfl (nI_1 (i + 1 + j)) (by decide) rfl (fun ls hl => ?_)
            refine lv_goto (tgt := 26) hx hb dX2_trend_74 (by decide) ?_
            have hP : va_P D vwCl (wM g q a b) _ := hP
            have hD : va_D A (wM g q a b) := hD
            have hl : lv_has ls 5 [(4, .int (nI (i + 1 + (j + 1)))), (2, .int (r_ti (fun j => a 11 (8 * w + j)) i (r_to (fun j => a 11 (8 * w + j)) c i) (j + 1))), (0, .ref (q 0)), (1, .int (nI w)), (3, .int (nI i))] := lv_sub hl [0, 1, 2, 3, 4] rfl
            exact ih_26 (j + 1)  (by omega)  _ _ _ hP hD hS hl
          · -- on at 61
            refine lv_iconst (v := 1) hx hb dX2_trend_64 (by decide) ?_
            refine lv_goto (tgt := 69) hx hb dX2_trend_65 (by decide) ?_
            refine lv_topi (fun t9_2 et9_2 => ?_)
            obtain rfl : t9_2 = if a 11 (8 * w + (i + 1 + j)) ≤ a 11 (8 * w + i) then (-1) else 1 := et9_2.trans (if_neg c_61).symm
            refine lv_iadd hx hb dX2_trend_69 ?_
            refine lv_istore_n (lv' := [(2, .int ((r_ti (fun j => a 11 (8 * w + j)) i (r_to (fun j => a 11 (8 * w + j)) c i) j) + (if a 11 (8 * w + (i + 1 + j)) ≤ a 11 (8 * w + i) then (-1) else 1))), (4, .int (nI (i + 1 + j))), (0, .ref (q 0)), (1, .int (nI w)), (3, .int (nI i))]) hx hb dX2_trend_70 rfl hl (by decide) rfl (fun ls hl => ?_)
            refine lv_iinc (v := nI ((i + 1 + j) + 1)) (lv' := [(4, .int (nI ((i + 1 + j) + 1))), (2, .int ((r_ti (fun j => a 11 (8 * w + j)) i (r_to (fun j => a 11 (8 * w + j)) c i) j) + (if a 11 (8 * w + (i + 1 + j)) ≤ a 11 (8 * w + i) then (-1) else 1))), (0, .ref (q 0)), (1, .int (nI w)), (3, .int (nI i))]) hx hb dX2_trend_71 hl (k := 1) rfl (nI_1 (i + 1 + j)) (by decide) rfl (fun ls hl => ?_)
            refine lv_goto (tgt := 26) hx hb dX2_trend_74 (by decide) ?_
            have hP : va_P D vwCl (wM g q a b) _ := hP
            have hD : va_D A (wM g q a b) := hD
            have hl : lv_has ls 5 [(4, .int (nI (i + 1 + (j + 1)))), (2, .int (r_ti (fun j => a 11 (8 * w + j)) i (r_to (fun j => a 11 (8 * w + j)) c i) (j + 1))), (0, .ref (q 0)), (1, .int (nI w)), (3, .int (nI i))] := lv_sub hl [0, 1, 2, 3, 4] rfl
            exact ih_26 (j + 1)  (by omega)  _ _ _ hP hD hS hl
      exact lp_26 ((c - (i + 1)) - 0) 0  (by omega)  _ _ _ hP hD hS (lv_sub hl [0, 2, 3, 4, 1] rfl)
  exact lp_4 (c - 0) 0  (by omega)  _ _ _ hP hD hS (lv_sub hl [0, 1, 2, 3] rfl)
set_option maxHeartbeats 4000000 in
set_option maxRecDepth 100000 in
theorem c_M_trend_n (l : Launch) (D : va_G) (g : Nat → ClassId) (q : Nat → Nat) (a : Nat → Nat → Int32) (b : Nat → Nat → Int64) (x : Int32) (hxw : m_isWell x = false) : zc_i l D (tyG g) yX2_trend cX2_trend 5 (some .int) rm_M_trend [.ref (q 0), .int x] (wM g q a b) (fun (r : Int32) (u : Unit) => r = 0) (fun _ => wM g q a b) 0 0 := by
  refine zi_of (by decide) (Nat.le_of_ble_eq_true rfl) rfl ?_
  intro p e s m args below meth cd_ A Q ls C0 hnm hP hD hS hl hret
  obtain ⟨hx, hb, hr, hml, hlocks, hown, hts, hK, hA, hN⟩ := id C0
  have hl : lv_has ls 5 [(0, .ref (q 0)), (1, .int x)] := hl
  refine lv_iconst (v := 0) hx hb dX2_trend_0 (by decide) ?_
  refine lv_istore_n (lv' := [(2, .int 0), (0, .ref (q 0)), (1, .int x)]) hx hb dX2_trend_1 rfl hl (by decide) rfl (fun ls hl => ?_)
  refine lv_iconst (v := 0) hx hb dX2_trend_2 (by decide) ?_
  refine lv_istore_n (lv' := [(3, .int 0), (2, .int 0), (0, .ref (q 0)), (1, .int x)]) hx hb dX2_trend_3 rfl hl (by decide) rfl (fun ls hl => ?_)
  refine lv_iload_n hx hb dX2_trend_4 rfl (lv_at hl 3 rfl) ?_
  refine zk_pi (rest := []) C0 hP hD hS (c_M_isWell l D (tyG g) x) kk_X2_115 hl.1 rfl rfl (Nat.le_of_ble_eq_true rfl) ⟨(Nat.le_of_ble_eq_true rfl), (Nat.le_of_ble_eq_true rfl)⟩ rfl rfl ⟨(Nat.le_of_ble_eq_true rfl), (Nat.le_of_ble_eq_true rfl)⟩ dX2_trend_5 (fun r_5 H locs hw_5 hP hS => ?_)
  obtain rfl := hw_5
  refine lv_if_eq (tgt := 83) hx hb dX2_trend_8 (by decide) (fun _ => ?_) (fun c_8 => absurd (by rw [hxw]; rfl) c_8)
  refine lv_iload_n hx hb dX2_trend_83 rfl (lv_at hl 1 rfl) ?_
  exact hret 0 () _ _ _ _ _ _ (vp_nar_int _) rfl hP hD hS (Nat.le_of_ble_eq_true rfl) (Nat.le_of_ble_eq_true rfl) dX2_trend_84
def rm_M_countOrders : Room := { frames := 0, cells := 0, slots := 0, locals := 0 }
set_option maxHeartbeats 4000000 in
set_option maxRecDepth 100000 in
theorem c_M_countOrders (l : Launch) (D : va_G) (g : Nat → ClassId) (q : Nat → Nat) (a : Nat → Nat → Int32) (b : Nat → Nat → Int64) (c : Nat) (hc8 : c ≤ 8) : zc_v l D (tyG g) yX2_countOrders cX2_countOrders 5 none rm_M_countOrders [.ref (q 0), .int (nI c)] (wM g q a b) (fun (u : (Nat → Nat → Int64)) => u = va_up (va_up b 12 (r_B (b 12) (b 13) (c - 1)).1) 13 (r_B (b 12) (b 13) (c - 1)).2) (fun u => wM g q a u) 0 0 := by
  refine zv_of (by decide) (Nat.le_of_ble_eq_true rfl) rfl ?_
  intro p e s m args below meth cd_ A Q ls C0 hnm hP hD hS hl hret
  obtain ⟨hx, hb, hr, hml, hlocks, hown, hts, hK, hA, hN⟩ := id C0
  have hl : lv_has ls 5 [(0, .ref (q 0)), (1, .int (nI c))] := hl
  refine lv_iconst (v := 0) hx hb dX2_countOrders_0 (by decide) ?_
  refine lv_istore_n (lv' := [(2, .int 0), (0, .ref (q 0)), (1, .int (nI c))]) hx hb dX2_countOrders_1 rfl hl (by decide) rfl (fun ls hl => ?_)
  have lp_2 : ∀ (t_2 k : Nat) , k + t_2 = 30 → ∀ (H : Heap) (locs : List Loc) (ls : Array Slot), va_P D vwCl (wM g q a (va_up b 12 (r_o0 (b 12) k))) H → va_D A (wM g q a (va_up b 12 (r_o0 (b 12) k))) → va_S A s.heap H locs → lv_has ls 5 [(2, .int (nI k)), (0, .ref (q 0)), (1, .int (nI c))] → W p l e rm_M_countOrders s m args below meth cd_ H locs 0 0 Q (F0 m 2 ls []) := by
    intro t_2
    induction t_2 with
    | zero =>
      intro k hi_2 H locs ls hP hD hS hl
      obtain rfl : 30 = k := by omega
      refine lv_iload_n hx hb dX2_countOrders_2 rfl (lv_at hl 0 rfl) ?_
      refine lv_bipush (v := 30) hx hb dX2_countOrders_3 (by decide) ?_
      refine lv_icmp_ge (tgt := 29) hx hb dX2_countOrders_5 (by decide) (fun _ => ?_) (fun c_5 => absurd (nI_le (a := 30) (Nat.le_refl _) (by omega)) c_5)
      refine lv_iconst (v := 2) hx hb dX2_countOrders_29 (by decide) ?_
      refine lv_istore_n (lv' := [(2, .int 2), (0, .ref (q 0)), (1, .int (nI c))]) hx hb dX2_countOrders_30 rfl hl (by decide) rfl (fun ls hl => ?_)
      have lp_31 : ∀ (t_31 i : Nat) , i + t_31 = (c - 1) → ∀ (H : Heap) (locs : List Loc) (ls : Array Slot), va_P D vwCl (wM g q a (va_up (va_up b 12 ((r_B (b 12) (b 13) i).1)) 13 ((r_B (b 12) (b 13) i).2))) H → va_D A (wM g q a (va_up (va_up b 12 ((r_B (b 12) (b 13) i).1)) 13 ((r_B (b 12) (b 13) i).2))) → va_S A s.heap H locs → lv_has ls 5 [(2, .int (nI (2 + i))), (0, .ref (q 0)), (1, .int (nI c))] → W p l e rm_M_countOrders s m args below meth cd_ H locs 0 0 Q (F0 m 31 ls []) := by
        intro t_31
        induction t_31 with
        | zero =>
          intro i hi_31 H locs ls hP hD hS hl
          obtain rfl : (c - 1) = i := by omega
          refine lv_iload_n hx hb dX2_countOrders_31 rfl (lv_at hl 0 rfl) ?_
          refine lv_iload_n hx hb dX2_countOrders_32 rfl (lv_at hl 2 rfl) ?_
          refine lv_icmp_gt (tgt := 128) hx hb dX2_countOrders_33 (by decide) (fun _ => ?_) (fun c_33 => absurd (nI_lt (by omega) (by omega)) c_33)
          exact hret (va_up (va_up b 12 ((r_B (b 12) (b 13) (c - 1)).1)) 13 ((r_B (b 12) (b 13) (c - 1)).2)) _ _ _ _ _ _ rfl hP hD hS (Nat.le_of_ble_eq_true rfl) (Nat.le_of_ble_eq_true rfl) dX2_countOrders_128
        | succ t_31 ih_31 =>
          intro i hi_31 H locs ls hP hD hS hl
          refine lv_iload_n hx hb dX2_countOrders_31 rfl (lv_at hl 0 rfl) ?_
          refine lv_iload_n hx hb dX2_countOrders_32 rfl (lv_at hl 2 rfl) ?_
          refine lv_icmp_gt (tgt := 128) hx hb dX2_countOrders_33 (by decide) (fun c_33 => absurd c_33 (nI_nlt (by omega) (by omega))) (fun _ => ?_)
          refine lv_iconst (v := 0) hx hb dX2_countOrders_36 (by decide) ?_
          refine lv_istore_n (lv' := [(3, .int 0), (2, .int (nI (2 + i))), (0, .ref (q 0)), (1, .int (nI c))]) hx hb dX2_countOrders_37 rfl hl (by decide) rfl (fun ls hl => ?_)
          have lp_38 : ∀ (t_38 k : Nat) , k + t_38 = 30 → ∀ (H : Heap) (locs : List Loc) (ls : Array Slot), va_P D vwCl (wM g q a (va_up (va_up b 12 ((r_B (b 12) (b 13) i).1)) 13 (r_C (r_B (b 12) (b 13) i).1 (r_B (b 12) (b 13) i).2 (2 + i) k))) H → va_D A (wM g q a (va_up (va_up b 12 ((r_B (b 12) (b 13) i).1)) 13 (r_C (r_B (b 12) (b 13) i).1 (r_B (b 12) (b 13) i).2 (2 + i) k))) → va_S A s.heap H locs → lv_has ls 5 [(3, .int (nI k)), (2, .int (nI (2 + i))), (0, .ref (q 0)), (1, .int (nI c))] → W p l e rm_M_countOrders s m args below meth cd_ H locs 0 0 Q (F0 m 38 ls []) := by
            intro t_38
            induction t_38 with
            | zero =>
              intro k hi_38 H locs ls hP hD hS hl
              obtain rfl : 30 = k := by omega
              refine lv_iload_n hx hb dX2_countOrders_38 rfl (lv_at hl 0 rfl) ?_
              refine lv_bipush (v := 30) hx hb dX2_countOrders_39 (by decide) ?_
              refine lv_icmp_ge (tgt := 96) hx hb dX2_countOrders_41 (by decide) (fun _ => ?_) (fun c_41 => absurd (nI_le (a := 30) (Nat.le_refl _) (by omega)) c_41)
              refine lv_iconst (v := 0) hx hb dX2_countOrders_96 (by decide) ?_
              refine lv_istore_n (lv' := [(3, .int 0), (2, .int (nI (2 + i))), (0, .ref (q 0)), (1, .int (nI c))]) hx hb dX2_countOrders_97 rfl hl (by decide) rfl (fun ls hl => ?_)
              have lp_98 : ∀ (t_98 k : Nat) , k + t_98 = 30 → ∀ (H : Heap) (locs : List Loc) (ls : Array Slot), va_P D vwCl (wM g q a (va_up (va_up b 12 (r_E (r_B (b 12) (b 13) i).1 (r_C (r_B (b 12) (b 13) i).1 (r_B (b 12) (b 13) i).2 (2 + i) 30) k)) 13 (r_C (r_B (b 12) (b 13) i).1 (r_B (b 12) (b 13) i).2 (2 + i) 30))) H → va_D A (wM g q a (va_up (va_up b 12 (r_E (r_B (b 12) (b 13) i).1 (r_C (r_B (b 12) (b 13) i).1 (r_B (b 12) (b 13) i).2 (2 + i) 30) k)) 13 (r_C (r_B (b 12) (b 13) i).1 (r_B (b 12) (b 13) i).2 (2 + i) 30))) → va_S A s.heap H locs → lv_has ls 5 [(3, .int (nI k)), (2, .int (nI (2 + i))), (0, .ref (q 0)), (1, .int (nI c))] → W p l e rm_M_countOrders s m args below meth cd_ H locs 0 0 Q (F0 m 98 ls []) := by
                intro t_98
                induction t_98 with
                | zero =>
                  intro k hi_98 H locs ls hP hD hS hl
                  obtain rfl : 30 = k := by omega
                  refine lv_iload_n hx hb dX2_countOrders_98 rfl (lv_at hl 0 rfl) ?_
                  refine lv_bipush (v := 30) hx hb dX2_countOrders_99 (by decide) ?_
                  refine lv_icmp_ge (tgt := 122) hx hb dX2_countOrders_101 (by decide) (fun _ => ?_) (fun c_101 => absurd (nI_le (a := 30) (Nat.le_refl _) (by omega)) c_101)
                  refine lv_iinc (v := nI ((2 + i) + 1)) (lv' := [(2, .int (nI ((2 + i) + 1))), (3, .int (nI 30)), (0, .ref (q 0)), (1, .int (nI c))]) hx hb dX2_countOrders_122 hl (k := 1) rfl (nI_1 (2 + i)) (by decide) rfl (fun ls hl => ?_)
                  refine lv_goto (tgt := 31) hx hb dX2_countOrders_125 (by decide) ?_
                  have hP : va_P D vwCl (wM g q a (va_up (va_up b 12 ((r_B (b 12) (b 13) (i + 1)).1)) 13 ((r_B (b 12) (b 13) (i + 1)).2))) _ := hP
                  have hD : va_D A (wM g q a (va_up (va_up b 12 ((r_B (b 12) (b 13) (i + 1)).1)) 13 ((r_B (b 12) (b 13) (i + 1)).2))) := hD
                  have hl : lv_has ls 5 [(2, .int (nI (2 + (i + 1)))), (0, .ref (q 0)), (1, .int (nI c))] := lv_sub hl [0, 2, 3] rfl
                  exact ih_31 (i + 1)  (by omega)  _ _ _ hP hD hS hl
                | succ t_98 ih_98 =>
                  intro k hi_98 H locs ls hP hD hS hl
                  refine lv_iload_n hx hb dX2_countOrders_98 rfl (lv_at hl 0 rfl) ?_
                  refine lv_bipush (v := 30) hx hb dX2_countOrders_99 (by decide) ?_
                  refine lv_icmp_ge (tgt := 122) hx hb dX2_countOrders_101 (by decide) (fun c_101 => absurd c_101 (nI_ge (a := k) (b := 30) (by omega) (by omega))) (fun _ => ?_)
                  refine lv_aload_n hx hb dX2_countOrders_104 rfl (lv_at hl 2 rfl) ?_
                  refine va_get (D := D) (ci := 2) (v := .ref (q 12)) (C := RX2) (T := TX2) (N := 22) hx hb hts iw_X2 hown hK hP 0 rfl rfl 20 (by decide) (hts _ kf_X2_53) (fun _ h9 => h9) rfl dX2_countOrders_105 ?_
                  refine lv_iload_n hx hb dX2_countOrders_108 rfl (lv_at hl 0 rfl) ?_
                  refine lv_aload_n hx hb dX2_countOrders_109 rfl (lv_at hl 2 rfl) ?_
                  refine va_get (D := D) (ci := 2) (v := .ref (q 13)) (C := RX2) (T := TX2) (N := 22) hx hb hts iw_X2 hown hK hP 0 rfl rfl 21 (by decide) (hts _ kf_X2_56) (fun _ h9 => h9) rfl dX2_countOrders_110 ?_
                  refine lv_iload_n hx hb dX2_countOrders_113 rfl (lv_at hl 0 rfl) ?_
                  refine za_lald (k := k) (f := (r_C (r_B (b 12) (b 13) i).1 (r_B (b 12) (b 13) i).2 (2 + i) 30)) (v := (r_C (r_B (b 12) (b 13) i).1 (r_B (b 12) (b 13) i).2 (2 + i) 30) k) hx hb hK hP 13 1 rfl rfl rfl (by omega) (by decide) rfl dX2_countOrders_114 ?_
                  refine za_last (k := k) (x := (r_C (r_B (b 12) (b 13) i).1 (r_B (b 12) (b 13) i).2 (2 + i) 30) k) (f := (r_E (r_B (b 12) (b 13) i).1 (r_C (r_B (b 12) (b 13) i).1 (r_B (b 12) (b 13) i).2 (2 + i) 30) k)) hx hb hK hP hD hS 12 1 rfl rfl rfl (by omega) (by decide) dX2_countOrders_115 (fun H locs hP hD hS => ?_)
                  have hP : va_P D vwCl (wM g q a (va_up (va_up b 12 (vp_updL (r_E (r_B (b 12) (b 13) i).1 (r_C (r_B (b 12) (b 13) i).1 (r_B (b 12) (b 13) i).2 (2 + i) 30) k) k ((r_C (r_B (b 12) (b 13) i).1 (r_B (b 12) (b 13) i).2 (2 + i) 30) k))) 13 (r_C (r_B (b 12) (b 13) i).1 (r_B (b 12) (b 13) i).2 (2 + i) 30))) H := hP
                  have hD : va_D A (wM g q a (va_up (va_up b 12 (vp_updL (r_E (r_B (b 12) (b 13) i).1 (r_C (r_B (b 12) (b 13) i).1 (r_B (b 12) (b 13) i).2 (2 + i) 30) k) k ((r_C (r_B (b 12) (b 13) i).1 (r_B (b 12) (b 13) i).2 (2 + i) 30) k))) 13 (r_C (r_B (b 12) (b 13) i).1 (r_B (b 12) (b 13) i).2 (2 + i) 30))) := hD
                  refine lv_iinc (v := nI (k + 1)) (lv' := [(3, .int (nI (k + 1))), (2, .int (nI (2 + i))), (0, .ref (q 0)), (1, .int (nI c))]) hx hb dX2_countOrders_116 hl (k := 0) rfl (nI_1 k) (by decide) rfl (fun ls hl => ?_)
                  refine lv_goto (tgt := 98) hx hb dX2_countOrders_119 (by decide) ?_
                  have hP : va_P D vwCl (wM g q a (va_up (va_up b 12 (r_E (r_B (b 12) (b 13) i).1 (r_C (r_B (b 12) (b 13) i).1 (r_B (b 12) (b 13) i).2 (2 + i) 30) (k + 1))) 13 (r_C (r_B (b 12) (b 13) i).1 (r_B (b 12) (b 13) i).2 (2 + i) 30))) _ := hP
                  have hD : va_D A (wM g q a (va_up (va_up b 12 (r_E (r_B (b 12) (b 13) i).1 (r_C (r_B (b 12) (b 13) i).1 (r_B (b 12) (b 13) i).2 (2 + i) 30) (k + 1))) 13 (r_C (r_B (b 12) (b 13) i).1 (r_B (b 12) (b 13) i).2 (2 + i) 30))) := hD
                  have hl : lv_has ls 5 [(3, .int (nI (k + 1))), (2, .int (nI (2 + i))), (0, .ref (q 0)), (1, .int (nI c))] := lv_sub hl [0, 1, 2, 3] rfl
                  exact ih_98 (k + 1)  (by omega)  _ _ _ hP hD hS hl
              exact lp_98 (30 - 0) 0  (by omega)  _ _ _ hP hD hS (lv_sub hl [0, 1, 2, 3] rfl)
            | succ t_38 ih_38 =>
              intro k hi_38 H locs ls hP hD hS hl
              refine lv_iload_n hx hb dX2_countOrders_38 rfl (lv_at hl 0 rfl) ?_
              refine lv_bipush (v := 30) hx hb dX2_countOrders_39 (by decide) ?_
              refine lv_icmp_ge (tgt := 96) hx hb dX2_countOrders_41 (by decide) (fun c_41 => absurd c_41 (nI_ge (a := k) (b := 30) (by omega) (by omega))) (fun _ => ?_)
              refine lv_aload_n hx hb dX2_countOrders_44 rfl (lv_at hl 2 rfl) ?_
              refine va_get (D := D) (ci := 2) (v := .ref (q 13)) (C := RX2) (T := TX2) (N := 22) hx hb hts iw_X2 hown hK hP 0 rfl rfl 21 (by decide) (hts _ kf_X2_56) (fun _ h9 => h9) rfl dX2_countOrders_45 ?_
              refine lv_iload_n hx hb dX2_countOrders_48 rfl (lv_at hl 0 rfl) ?_
              refine lv_lconst (v := 0) hx hb dX2_countOrders_49 (by decide) ?_
              refine za_last (k := k) (x := 0) (f := (r_C (r_B (b 12) (b 13) i).1 (r_B (b 12) (b 13) i).2 (2 + i) k)) hx hb hK hP hD hS 13 1 rfl rfl rfl (by omega) (by decide) dX2_countOrders_50 (fun H locs hP hD hS => ?_)
              have hP : va_P D vwCl (wM g q a (va_up (va_up b 12 ((r_B (b 12) (b 13) i).1)) 13 (vp_updL (r_C (r_B (b 12) (b 13) i).1 (r_B (b 12) (b 13) i).2 (2 + i) k) k 0))) H := hP
              have hD : va_D A (wM g q a (va_up (va_up b 12 ((r_B (b 12) (b 13) i).1)) 13 (vp_updL (r_C (r_B (b 12) (b 13) i).1 (r_B (b 12) (b 13) i).2 (2 + i) k) k 0))) := hD
              refine lv_iconst (v := 0) hx hb dX2_countOrders_51 (by decide) ?_
              refine lv_istore (lv' := [(4, .int 0), (3, .int (nI k)), (2, .int (nI (2 + i))), (0, .ref (q 0)), (1, .int (nI c))]) hx hb dX2_countOrders_52 hl (by decide) rfl (fun ls hl => ?_)
              have lp_54 : ∀ (t_54 t : Nat) , t + t_54 = (min (2 + i) (k + 1)) → ∀ (H : Heap) (locs : List Loc) (ls : Array Slot), va_P D vwCl (wM g q a (va_up (va_up b 12 ((r_B (b 12) (b 13) i).1)) 13 (r_D (r_B (b 12) (b 13) i).1 (r_C (r_B (b 12) (b 13) i).1 (r_B (b 12) (b 13) i).2 (2 + i) k) k t))) H → va_D A (wM g q a (va_up (va_up b 12 ((r_B (b 12) (b 13) i).1)) 13 (r_D (r_B (b 12) (b 13) i).1 (r_C (r_B (b 12) (b 13) i).1 (r_B (b 12) (b 13) i).2 (2 + i) k) k t))) → va_S A s.heap H locs → lv_has ls 5 [(4, .int (nI t)), (3, .int (nI k)), (2, .int (nI (2 + i))), (0, .ref (q 0)), (1, .int (nI c))] → W p l e rm_M_countOrders s m args below meth cd_ H locs 0 0 Q (F0 m 54 ls []) := by
                intro t_54
                induction t_54 with
                | zero =>
                  intro t hi_54 H locs ls hP hD hS hl
                  obtain rfl : (min (2 + i) (k + 1)) = t := by omega
                  refine lv_iload hx hb dX2_countOrders_54 (lv_at hl 0 rfl) ?_
                  refine lv_iload_n hx hb dX2_countOrders_56 rfl (lv_at hl 2 rfl) ?_
                  refine lv_icmp_ge (tgt := 90) hx hb dX2_countOrders_57 (by decide) (fun c_57 => ?_) (fun c_57 => ?_)
                  · -- jump at 57
                    refine lv_iinc (v := nI (k + 1)) (lv' := [(3, .int (nI (k + 1))), (4, .int (nI (min (2 + i) (k + 1)))), (2, .int (nI (2 + i))), (0, .ref (q 0)), (1, .int (nI c))]) hx hb dX2_countOrders_90 hl (k := 1) rfl (nI_1 k) (by decide) rfl (fun ls hl => ?_)
                    refine lv_goto (tgt := 38) hx hb dX2_countOrders_93 (by decide) ?_
                    have hP : va_P D vwCl (wM g q a (va_up (va_up b 12 ((r_B (b 12) (b 13) i).1)) 13 (r_C (r_B (b 12) (b 13) i).1 (r_B (b 12) (b 13) i).2 (2 + i) (k + 1)))) _ := hP
                    have hD : va_D A (wM g q a (va_up (va_up b 12 ((r_B (b 12) (b 13) i).1)) 13 (r_C (r_B (b 12) (b 13) i).1 (r_B (b 12) (b 13) i).2 (2 + i) (k + 1)))) := hD
                    have hl : lv_has ls 5 [(3, .int (nI (k + 1))), (2, .int (nI (2 + i))), (0, .ref (q 0)), (1, .int (nI c))] := lv_sub hl [0, 2, 3, 4] rfl
                    exact ih_38 (k + 1)  (by omega)  _ _ _ hP hD hS hl
                  · -- on at 57
                    refine lv_iload hx hb dX2_countOrders_60 (lv_at hl 0 rfl) ?_
                    refine lv_iload_n hx hb dX2_countOrders_62 rfl (lv_at hl 1 rfl) ?_
                    refine lv_icmp_gt (tgt := 90) hx hb dX2_countOrders_63 (by decide) (fun _ => ?_) (fun c_63 => absurd (by have h9 : ¬ 2 + i ≤ min (2 + i) (k + 1) := fun h => c_57 (nI_le h (by omega)); exact nI_lt (by omega) (by omega)) c_63)
                    refine lv_iinc (v := nI (k + 1)) (lv' := [(3, .int (nI (k + 1))), (4, .int (nI (min (2 + i) (k + 1)))), (2, .int (nI (2 + i))), (0, .ref (q 0)), (1, .int (nI c))]) hx hb dX2_countOrders_90 hl (k := 1) rfl (nI_1 k) (by decide) rfl (fun ls hl => ?_)
                    refine lv_goto (tgt := 38) hx hb dX2_countOrders_93 (by decide) ?_
                    have hP : va_P D vwCl (wM g q a (va_up (va_up b 12 ((r_B (b 12) (b 13) i).1)) 13 (r_C (r_B (b 12) (b 13) i).1 (r_B (b 12) (b 13) i).2 (2 + i) (k + 1)))) _ := hP
                    have hD : va_D A (wM g q a (va_up (va_up b 12 ((r_B (b 12) (b 13) i).1)) 13 (r_C (r_B (b 12) (b 13) i).1 (r_B (b 12) (b 13) i).2 (2 + i) (k + 1)))) := hD
                    have hl : lv_has ls 5 [(3, .int (nI (k + 1))), (2, .int (nI (2 + i))), (0, .ref (q 0)), (1, .int (nI c))] := lv_sub hl [0, 2, 3, 4] rfl
                    exact ih_38 (k + 1)  (by omega)  _ _ _ hP hD hS hl
                | succ t_54 ih_54 =>
                  intro t hi_54 H locs ls hP hD hS hl
                  refine lv_iload hx hb dX2_countOrders_54 (lv_at hl 0 rfl) ?_
                  refine lv_iload_n hx hb dX2_countOrders_56 rfl (lv_at hl 2 rfl) ?_
                  refine lv_icmp_ge (tgt := 90) hx hb dX2_countOrders_57 (by decide) (fun c_57 => absurd c_57 (nI_ge (by omega) (by omega))) (fun _ => ?_)
                  refine lv_iload hx hb dX2_countOrders_60 (lv_at hl 0 rfl) ?_
                  refine lv_iload_n hx hb dX2_countOrders_62 rfl (lv_at hl 1 rfl) ?_
                  refine lv_icmp_gt (tgt := 90) hx hb dX2_countOrders_63 (by decide) (fun c_63 => absurd c_63 (nI_nlt (by omega) (by omega))) (fun _ => ?_)
                  refine lv_aload_n hx hb dX2_countOrders_66 rfl (lv_at hl 3 rfl) ?_
                  refine va_get (D := D) (ci := 2) (v := .ref (q 13)) (C := RX2) (T := TX2) (N := 22) hx hb hts iw_X2 hown hK hP 0 rfl rfl 21 (by decide) (hts _ kf_X2_56) (fun _ h9 => h9) rfl dX2_countOrders_67 ?_
                  refine lv_iload_n hx hb dX2_countOrders_70 rfl (lv_at hl 1 rfl) ?_
                  refine lv_dup2_11 hx hb dX2_countOrders_71 rfl rfl ?_
                  refine za_lald (k := k) (f := (r_D (r_B (b 12) (b 13) i).1 (r_C (r_B (b 12) (b 13) i).1 (r_B (b 12) (b 13) i).2 (2 + i) k) k t)) (v := (r_D (r_B (b 12) (b 13) i).1 (r_C (r_B (b 12) (b 13) i).1 (r_B (b 12) (b 13) i).2 (2 + i) k) k t) k) hx hb hK hP 13 1 rfl rfl rfl (by omega) (by decide) rfl dX2_countOrders_72 ?_
                  refine lv_aload_n hx hb dX2_countOrders_73 rfl (lv_at hl 3 rfl) ?_
                  refine va_get (D := D) (ci := 2) (v := .ref (q 12)) (C := RX2) (T := TX2) (N := 22) hx hb hts iw_X2 hown hK hP 0 rfl rfl 20 (by decide) (hts _ kf_X2_53) (fun _ h9 => h9) rfl dX2_countOrders_74 ?_
                  refine lv_iload_n hx hb dX2_countOrders_77 rfl (lv_at hl 1 rfl) ?_
                  refine lv_iload hx hb dX2_countOrders_78 (lv_at hl 0 rfl) ?_
                  refine lv_isub hx hb dX2_countOrders_80 ?_
                  rw [show (nI k) - (nI t) = nI (k - t) from (pk_sub (by omega))]
                  refine za_lald (k := (k - t)) (f := ((r_B (b 12) (b 13) i).1)) (v := (r_B (b 12) (b 13) i).1 (k - t)) hx hb hK hP 12 1 rfl rfl rfl (by omega) (by decide) rfl dX2_countOrders_81 ?_
                  refine lv_ladd hx hb dX2_countOrders_82 ?_
                  refine za_last (k := k) (x := ((r_D (r_B (b 12) (b 13) i).1 (r_C (r_B (b 12) (b 13) i).1 (r_B (b 12) (b 13) i).2 (2 + i) k) k t) k) + ((r_B (b 12) (b 13) i).1 (k - t))) (f := (r_D (r_B (b 12) (b 13) i).1 (r_C (r_B (b 12) (b 13) i).1 (r_B (b 12) (b 13) i).2 (2 + i) k) k t)) hx hb hK hP hD hS 13 1 rfl rfl rfl (by omega) (by decide) dX2_countOrders_83 (fun H locs hP hD hS => ?_)
                  have hP : va_P D vwCl (wM g q a (va_up (va_up b 12 ((r_B (b 12) (b 13) i).1)) 13 (vp_updL (r_D (r_B (b 12) (b 13) i).1 (r_C (r_B (b 12) (b 13) i).1 (r_B (b 12) (b 13) i).2 (2 + i) k) k t) k (((r_D (r_B (b 12) (b 13) i).1 (r_C (r_B (b 12) (b 13) i).1 (r_B (b 12) (b 13) i).2 (2 + i) k) k t) k) + ((r_B (b 12) (b 13) i).1 (k - t)))))) H := hP
                  have hD : va_D A (wM g q a (va_up (va_up b 12 ((r_B (b 12) (b 13) i).1)) 13 (vp_updL (r_D (r_B (b 12) (b 13) i).1 (r_C (r_B (b 12) (b 13) i).1 (r_B (b 12) (b 13) i).2 (2 + i) k) k t) k (((r_D (r_B (b 12) (b 13) i).1 (r_C (r_B (b 12) (b 13) i).1 (r_B (b 12) (b 13) i).2 (2 + i) k) k t) k) + ((r_B (b 12) (b 13) i).1 (k - t)))))) := hD
                  refine lv_iinc (v := nI (t + 1)) (lv' := [(4, .int (nI (t + 1))), (3, .int (nI k)), (2, .int (nI (2 + i))), (0, .ref (q 0)), (1, .int (nI c))]) hx hb dX2_countOrders_84 hl (k := 0) rfl (nI_1 t) (by decide) rfl (fun ls hl => ?_)
                  refine lv_goto (tgt := 54) hx hb dX2_countOrders_87 (by decide) ?_
                  have hP : va_P D vwCl (wM g q a (va_up (va_up b 12 ((r_B (b 12) (b 13) i).1)) 13 (r_D (r_B (b 12) (b 13) i).1 (r_C (r_B (b 12) (b 13) i).1 (r_B (b 12) (b 13) i).2 (2 + i) k) k (t + 1)))) _ := hP
                  have hD : va_D A (wM g q a (va_up (va_up b 12 ((r_B (b 12) (b 13) i).1)) 13 (r_D (r_B (b 12) (b 13) i).1 (r_C (r_B (b 12) (b 13) i).1 (r_B (b 12) (b 13) i).2 (2 + i) k) k (t + 1)))) := hD
                  have hl : lv_has ls 5 [(4, .int (nI (t + 1))), (3, .int (nI k)), (2, .int (nI (2 + i))), (0, .ref (q 0)), (1, .int (nI c))] := lv_sub hl [0, 1, 2, 3, 4] rfl
                  exact ih_54 (t + 1)  (by omega)  _ _ _ hP hD hS hl
              exact lp_54 ((min (2 + i) (k + 1)) - 0) 0  (by omega)  _ _ _ hP hD hS (lv_sub hl [0, 1, 2, 3, 4] rfl)
          exact lp_38 (30 - 0) 0  (by omega)  _ _ _ hP hD hS (lv_sub hl [0, 1, 2, 3] rfl)
      exact lp_31 ((c - 1) - 0) 0  (by omega)  _ _ _ hP hD hS (lv_sub hl [0, 1, 2] rfl)
    | succ t_2 ih_2 =>
      intro k hi_2 H locs ls hP hD hS hl
      refine lv_iload_n hx hb dX2_countOrders_2 rfl (lv_at hl 0 rfl) ?_
      refine lv_bipush (v := 30) hx hb dX2_countOrders_3 (by decide) ?_
      refine lv_icmp_ge (tgt := 29) hx hb dX2_countOrders_5 (by decide) (fun c_5 => absurd c_5 (nI_ge (a := k) (b := 30) (by omega) (by omega))) (fun _ => ?_)
      refine lv_aload_n hx hb dX2_countOrders_8 rfl (lv_at hl 1 rfl) ?_
      refine va_get (D := D) (ci := 2) (v := .ref (q 12)) (C := RX2) (T := TX2) (N := 22) hx hb hts iw_X2 hown hK hP 0 rfl rfl 20 (by decide) (hts _ kf_X2_53) (fun _ h9 => h9) rfl dX2_countOrders_9 ?_
      refine lv_iload_n hx hb dX2_countOrders_12 rfl (lv_at hl 0 rfl) ?_
      refine lv_iload_n hx hb dX2_countOrders_13 rfl (lv_at hl 0 rfl) ?_
      refine lv_if_ne (tgt := 21) hx hb dX2_countOrders_14 (by decide) (fun c_14 => ?_) (fun c_14 => ?_)
      · -- jump at 14
        have hk0 : ¬ k = 0 := fun h => c_14 (by rw [h]; rfl)
        refine lv_lconst (v := 0) hx hb dX2_countOrders_21 (by decide) ?_
        refine lv_topl (fun t9_1 et9_1 => ?_)
        obtain rfl : t9_1 = if k = 0 then (1 : Int64) else 0 := et9_1.trans (if_neg hk0).symm
        refine za_last (k := k) (x := if k = 0 then (1 : Int64) else 0) (f := (r_o0 (b 12) k)) hx hb hK hP hD hS 12 1 rfl rfl rfl (by omega) (by decide) dX2_countOrders_22 (fun H locs hP hD hS => ?_)
        have hP : va_P D vwCl (wM g q a (va_up b 12 (vp_updL (r_o0 (b 12) k) k (if k = 0 then (1 : Int64) else 0)))) H := hP
        have hD : va_D A (wM g q a (va_up b 12 (vp_updL (r_o0 (b 12) k) k (if k = 0 then (1 : Int64) else 0)))) := hD
        refine lv_iinc (v := nI (k + 1)) (lv' := [(2, .int (nI (k + 1))), (0, .ref (q 0)), (1, .int (nI c))]) hx hb dX2_countOrders_23 hl (k := 0) rfl (nI_1 k) (by decide) rfl (fun ls hl => ?_)
        refine lv_goto (tgt := 2) hx hb dX2_countOrders_26 (by decide) ?_
        have hP : va_P D vwCl (wM g q a (va_up b 12 (r_o0 (b 12) (k + 1)))) _ := hP
        have hD : va_D A (wM g q a (va_up b 12 (r_o0 (b 12) (k + 1)))) := hD
        have hl : lv_has ls 5 [(2, .int (nI (k + 1))), (0, .ref (q 0)), (1, .int (nI c))] := lv_sub hl [0, 1, 2] rfl
        exact ih_2 (k + 1)  (by omega)  _ _ _ hP hD hS hl
      · -- on at 14
        have hk0 : k = 0 := by rcases Nat.eq_zero_or_pos k with h | h; exact h; exact absurd c_14 (nI_ne0 h (by omega))
        refine lv_lconst (v := 1) hx hb dX2_countOrders_17 (by decide) ?_
        refine lv_goto (tgt := 22) hx hb dX2_countOrders_18 (by decide) ?_
        refine lv_topl (fun t9_2 et9_2 => ?_)
        obtain rfl : t9_2 = if k = 0 then (1 : Int64) else 0 := et9_2.trans (if_pos hk0).symm
        refine za_last (k := k) (x := if k = 0 then (1 : Int64) else 0) (f := (r_o0 (b 12) k)) hx hb hK hP hD hS 12 1 rfl rfl rfl (by omega) (by decide) dX2_countOrders_22 (fun H locs hP hD hS => ?_)
        have hP : va_P D vwCl (wM g q a (va_up b 12 (vp_updL (r_o0 (b 12) k) k (if k = 0 then (1 : Int64) else 0)))) H := hP
        have hD : va_D A (wM g q a (va_up b 12 (vp_updL (r_o0 (b 12) k) k (if k = 0 then (1 : Int64) else 0)))) := hD
        refine lv_iinc (v := nI (k + 1)) (lv' := [(2, .int (nI (k + 1))), (0, .ref (q 0)), (1, .int (nI c))]) hx hb dX2_countOrders_23 hl (k := 0) rfl (nI_1 k) (by decide) rfl (fun ls hl => ?_)
        refine lv_goto (tgt := 2) hx hb dX2_countOrders_26 (by decide) ?_
        have hP : va_P D vwCl (wM g q a (va_up b 12 (r_o0 (b 12) (k + 1)))) _ := hP
        have hD : va_D A (wM g q a (va_up b 12 (r_o0 (b 12) (k + 1)))) := hD
        have hl : lv_has ls 5 [(2, .int (nI (k + 1))), (0, .ref (q 0)), (1, .int (nI c))] := lv_sub hl [0, 1, 2] rfl
        exact ih_2 (k + 1)  (by omega)  _ _ _ hP hD hS hl
  exact lp_2 (30 - 0) 0  (by omega)  _ _ _ hP hD hS (lv_sub hl [0, 1, 2] rfl)
end
