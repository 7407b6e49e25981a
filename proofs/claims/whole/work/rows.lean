section
-- ===== PART A: goes FIRST, ahead of the names: the tables' words, and 'selects' of the private methods out of them =====
/-- a private method of a class that the tables say can be made, by its rows of tables_1 -/
def lw_okq (q : MethodName × Nat) : Prop := (q.1.cls ≠ "java/lang/invoke/MethodHandle" ∧ q.1.cls ≠ "java/lang/invoke/VarHandle") ∧ Cond.instantiable q.1.cls q.2 ∈ tables_1 ∧ Cond.privateMethod q.1 ∈ tables_1 ∧ Cond.instanceMethod q.1 ∈ tables_1
theorem lw_p0 : lw_okq (⟨"BellHouse", "makeHearer", "(III)I"⟩, 17) := ⟨⟨by decide +kernel, by decide +kernel⟩, List.mem_of_getElem? (i := 8) (by decide +kernel), List.mem_of_getElem? (i := 60) (by decide +kernel), List.mem_of_getElem? (i := 61) (by decide +kernel)⟩
theorem lw_p1 : lw_okq (⟨"BellHouse", "canBeMade", "(III)Z"⟩, 17) := ⟨⟨by decide +kernel, by decide +kernel⟩, List.mem_of_getElem? (i := 8) (by decide +kernel), List.mem_of_getElem? (i := 168) (by decide +kernel), List.mem_of_getElem? (i := 169) (by decide +kernel)⟩
theorem lw_p2 : lw_okq (⟨"BellHouse", "isHearer", "(I)Z"⟩, 17) := ⟨⟨by decide +kernel, by decide +kernel⟩, List.mem_of_getElem? (i := 8) (by decide +kernel), List.mem_of_getElem? (i := 172) (by decide +kernel), List.mem_of_getElem? (i := 173) (by decide +kernel)⟩
theorem lw_p3 : lw_okq (⟨"BellHouse", "ringBell", "(IJ)I"⟩, 17) := ⟨⟨by decide +kernel, by decide +kernel⟩, List.mem_of_getElem? (i := 8) (by decide +kernel), List.mem_of_getElem? (i := 208) (by decide +kernel), List.mem_of_getElem? (i := 209) (by decide +kernel)⟩
theorem lw_p4 : lw_okq (⟨"BellHouse", "perform", "(LBellHouse$Act;J)I"⟩, 17) := ⟨⟨by decide +kernel, by decide +kernel⟩, List.mem_of_getElem? (i := 8) (by decide +kernel), List.mem_of_getElem? (i := 217) (by decide +kernel), List.mem_of_getElem? (i := 218) (by decide +kernel)⟩
theorem lw_p5 : lw_okq (⟨"BellHouse", "metByTry", "(LBellHouse$Act;I)I"⟩, 17) := ⟨⟨by decide +kernel, by decide +kernel⟩, List.mem_of_getElem? (i := 8) (by decide +kernel), List.mem_of_getElem? (i := 224) (by decide +kernel), List.mem_of_getElem? (i := 225) (by decide +kernel)⟩
theorem lw_p6 : lw_okq (⟨"BellHouse", "performAlone", "(LBellHouse$Act;J)I"⟩, 17) := ⟨⟨by decide +kernel, by decide +kernel⟩, List.mem_of_getElem? (i := 8) (by decide +kernel), List.mem_of_getElem? (i := 231) (by decide +kernel), List.mem_of_getElem? (i := 232) (by decide +kernel)⟩
theorem lw_p7 : lw_okq (⟨"BellHouse", "shareTally", "(IJ)I"⟩, 17) := ⟨⟨by decide +kernel, by decide +kernel⟩, List.mem_of_getElem? (i := 8) (by decide +kernel), List.mem_of_getElem? (i := 238) (by decide +kernel), List.mem_of_getElem? (i := 239) (by decide +kernel)⟩
theorem lw_p8 : lw_okq (⟨"BellHouse", "addAtPlace", "(JI)I"⟩, 17) := ⟨⟨by decide +kernel, by decide +kernel⟩, List.mem_of_getElem? (i := 8) (by decide +kernel), List.mem_of_getElem? (i := 242) (by decide +kernel), List.mem_of_getElem? (i := 243) (by decide +kernel)⟩
theorem lw_p9 : lw_okq (⟨"BellHouse", "removeFromAllLines", "(I)V"⟩, 17) := ⟨⟨by decide +kernel, by decide +kernel⟩, List.mem_of_getElem? (i := 8) (by decide +kernel), List.mem_of_getElem? (i := 250) (by decide +kernel), List.mem_of_getElem? (i := 251) (by decide +kernel)⟩
theorem lw_p10 : lw_okq (⟨"BellHouse", "metByBell", "(LBellHouse$Bell;I)I"⟩, 17) := ⟨⟨by decide +kernel, by decide +kernel⟩, List.mem_of_getElem? (i := 8) (by decide +kernel), List.mem_of_getElem? (i := 254) (by decide +kernel), List.mem_of_getElem? (i := 255) (by decide +kernel)⟩
theorem lw_p11 : lw_okq (⟨"BellHouse", "ringQueueAfter", "(I)I"⟩, 17) := ⟨⟨by decide +kernel, by decide +kernel⟩, List.mem_of_getElem? (i := 8) (by decide +kernel), List.mem_of_getElem? (i := 261) (by decide +kernel), List.mem_of_getElem? (i := 262) (by decide +kernel)⟩
theorem lw_p12 : lw_okq (⟨"BellHouse", "answerOfCall", "(I)I"⟩, 17) := ⟨⟨by decide +kernel, by decide +kernel⟩, List.mem_of_getElem? (i := 8) (by decide +kernel), List.mem_of_getElem? (i := 277) (by decide +kernel), List.mem_of_getElem? (i := 278) (by decide +kernel)⟩
theorem lw_p13 : lw_okq (⟨"BellHouseModel", "make", "(III)V"⟩, 31) := ⟨⟨by decide +kernel, by decide +kernel⟩, List.mem_of_getElem? (i := 317) (by decide +kernel), List.mem_of_getElem? (i := 323) (by decide +kernel), List.mem_of_getElem? (i := 324) (by decide +kernel)⟩
theorem lw_p14 : lw_okq (⟨"BellHouseModel", "isHearer", "(I)Z"⟩, 31) := ⟨⟨by decide +kernel, by decide +kernel⟩, List.mem_of_getElem? (i := 317) (by decide +kernel), List.mem_of_getElem? (i := 447) (by decide +kernel), List.mem_of_getElem? (i := 448) (by decide +kernel)⟩
theorem lw_p15 : lw_okq (⟨"BellHouseModel", "placeOf", "(II)I"⟩, 31) := ⟨⟨by decide +kernel, by decide +kernel⟩, List.mem_of_getElem? (i := 317) (by decide +kernel), List.mem_of_getElem? (i := 455) (by decide +kernel), List.mem_of_getElem? (i := 456) (by decide +kernel)⟩
def lw_privs_1 : List (MethodName × Nat) := [(⟨"BellHouse", "makeHearer", "(III)I"⟩, 17), (⟨"BellHouse", "canBeMade", "(III)Z"⟩, 17), (⟨"BellHouse", "isHearer", "(I)Z"⟩, 17), (⟨"BellHouse", "ringBell", "(IJ)I"⟩, 17), (⟨"BellHouse", "perform", "(LBellHouse$Act;J)I"⟩, 17), (⟨"BellHouse", "metByTry", "(LBellHouse$Act;I)I"⟩, 17), (⟨"BellHouse", "performAlone", "(LBellHouse$Act;J)I"⟩, 17), (⟨"BellHouse", "shareTally", "(IJ)I"⟩, 17), (⟨"BellHouse", "addAtPlace", "(JI)I"⟩, 17), (⟨"BellHouse", "removeFromAllLines", "(I)V"⟩, 17), (⟨"BellHouse", "metByBell", "(LBellHouse$Bell;I)I"⟩, 17), (⟨"BellHouse", "ringQueueAfter", "(I)I"⟩, 17), (⟨"BellHouse", "answerOfCall", "(I)I"⟩, 17), (⟨"BellHouseModel", "make", "(III)V"⟩, 31), (⟨"BellHouseModel", "isHearer", "(I)Z"⟩, 31), (⟨"BellHouseModel", "placeOf", "(II)I"⟩, 31)]
theorem lw_r1 : ∀ q ∈ lw_privs_1, lw_okq q := List.forall_mem_cons.mpr ⟨lw_p0, List.forall_mem_cons.mpr ⟨lw_p1, List.forall_mem_cons.mpr ⟨lw_p2, List.forall_mem_cons.mpr ⟨lw_p3, List.forall_mem_cons.mpr ⟨lw_p4, List.forall_mem_cons.mpr ⟨lw_p5, List.forall_mem_cons.mpr ⟨lw_p6, List.forall_mem_cons.mpr ⟨lw_p7, List.forall_mem_cons.mpr ⟨lw_p8, List.forall_mem_cons.mpr ⟨lw_p9, List.forall_mem_cons.mpr ⟨lw_p10, List.forall_mem_cons.mpr ⟨lw_p11, List.forall_mem_cons.mpr ⟨lw_p12, List.forall_mem_cons.mpr ⟨lw_p13, List.forall_mem_cons.mpr ⟨lw_p14, List.forall_mem_cons.mpr ⟨lw_p15, fun _ h => absurd h List.not_mem_nil⟩⟩⟩⟩⟩⟩⟩⟩⟩⟩⟩⟩⟩⟩⟩⟩
theorem lw_p16 : lw_okq (⟨"BellHouseModel", "put", "(II)V"⟩, 31) := ⟨⟨by decide +kernel, by decide +kernel⟩, List.mem_of_getElem? (i := 317) (by decide +kernel), List.mem_of_getElem? (i := 459) (by decide +kernel), List.mem_of_getElem? (i := 460) (by decide +kernel)⟩
theorem lw_p17 : lw_okq (⟨"BellHouseModel", "out", "(II)I"⟩, 31) := ⟨⟨by decide +kernel, by decide +kernel⟩, List.mem_of_getElem? (i := 317) (by decide +kernel), List.mem_of_getElem? (i := 467) (by decide +kernel), List.mem_of_getElem? (i := 468) (by decide +kernel)⟩
theorem lw_p18 : lw_okq (⟨"BellHouseModel", "ready", "()V"⟩, 31) := ⟨⟨by decide +kernel, by decide +kernel⟩, List.mem_of_getElem? (i := 317) (by decide +kernel), List.mem_of_getElem? (i := 483) (by decide +kernel), List.mem_of_getElem? (i := 484) (by decide +kernel)⟩
theorem lw_p19 : lw_okq (⟨"BellHouseModel", "rings", "(IJ)V"⟩, 31) := ⟨⟨by decide +kernel, by decide +kernel⟩, List.mem_of_getElem? (i := 317) (by decide +kernel), List.mem_of_getElem? (i := 487) (by decide +kernel), List.mem_of_getElem? (i := 488) (by decide +kernel)⟩
theorem lw_p20 : lw_okq (⟨"BellHouseModel", "heap", "(IIJ)V"⟩, 31) := ⟨⟨by decide +kernel, by decide +kernel⟩, List.mem_of_getElem? (i := 317) (by decide +kernel), List.mem_of_getElem? (i := 491) (by decide +kernel), List.mem_of_getElem? (i := 492) (by decide +kernel)⟩
theorem lw_p21 : lw_okq (⟨"BellHouseModel", "all", "()I"⟩, 31) := ⟨⟨by decide +kernel, by decide +kernel⟩, List.mem_of_getElem? (i := 317) (by decide +kernel), List.mem_of_getElem? (i := 495) (by decide +kernel), List.mem_of_getElem? (i := 496) (by decide +kernel)⟩
theorem lw_p22 : lw_okq (⟨"BellHouseModel", "works", "()V"⟩, 31) := ⟨⟨by decide +kernel, by decide +kernel⟩, List.mem_of_getElem? (i := 317) (by decide +kernel), List.mem_of_getElem? (i := 499) (by decide +kernel), List.mem_of_getElem? (i := 500) (by decide +kernel)⟩
theorem lw_p23 : lw_okq (⟨"BellHouseModel", "fails", "()V"⟩, 31) := ⟨⟨by decide +kernel, by decide +kernel⟩, List.mem_of_getElem? (i := 317) (by decide +kernel), List.mem_of_getElem? (i := 503) (by decide +kernel), List.mem_of_getElem? (i := 504) (by decide +kernel)⟩
theorem lw_p24 : lw_okq (⟨"BellHouseModel", "stop", "()V"⟩, 31) := ⟨⟨by decide +kernel, by decide +kernel⟩, List.mem_of_getElem? (i := 317) (by decide +kernel), List.mem_of_getElem? (i := 507) (by decide +kernel), List.mem_of_getElem? (i := 508) (by decide +kernel)⟩
theorem lw_p25 : lw_okq (⟨"BellHouseModel", "does", "()V"⟩, 31) := ⟨⟨by decide +kernel, by decide +kernel⟩, List.mem_of_getElem? (i := 317) (by decide +kernel), List.mem_of_getElem? (i := 511) (by decide +kernel), List.mem_of_getElem? (i := 512) (by decide +kernel)⟩
theorem lw_p26 : lw_okq (⟨"BellHouseModel", "doesOthers", "(IJ)V"⟩, 31) := ⟨⟨by decide +kernel, by decide +kernel⟩, List.mem_of_getElem? (i := 317) (by decide +kernel), List.mem_of_getElem? (i := 515) (by decide +kernel), List.mem_of_getElem? (i := 516) (by decide +kernel)⟩
theorem lw_p27 : lw_okq (⟨"BellHouseModel", "begins", "(IJ)V"⟩, 31) := ⟨⟨by decide +kernel, by decide +kernel⟩, List.mem_of_getElem? (i := 317) (by decide +kernel), List.mem_of_getElem? (i := 519) (by decide +kernel), List.mem_of_getElem? (i := 520) (by decide +kernel)⟩
theorem lw_p28 : lw_okq (⟨"BellHouseModel", "goesOn", "()V"⟩, 31) := ⟨⟨by decide +kernel, by decide +kernel⟩, List.mem_of_getElem? (i := 317) (by decide +kernel), List.mem_of_getElem? (i := 523) (by decide +kernel), List.mem_of_getElem? (i := 524) (by decide +kernel)⟩
def lw_privs_2 : List (MethodName × Nat) := [(⟨"BellHouseModel", "put", "(II)V"⟩, 31), (⟨"BellHouseModel", "out", "(II)I"⟩, 31), (⟨"BellHouseModel", "ready", "()V"⟩, 31), (⟨"BellHouseModel", "rings", "(IJ)V"⟩, 31), (⟨"BellHouseModel", "heap", "(IIJ)V"⟩, 31), (⟨"BellHouseModel", "all", "()I"⟩, 31), (⟨"BellHouseModel", "works", "()V"⟩, 31), (⟨"BellHouseModel", "fails", "()V"⟩, 31), (⟨"BellHouseModel", "stop", "()V"⟩, 31), (⟨"BellHouseModel", "does", "()V"⟩, 31), (⟨"BellHouseModel", "doesOthers", "(IJ)V"⟩, 31), (⟨"BellHouseModel", "begins", "(IJ)V"⟩, 31), (⟨"BellHouseModel", "goesOn", "()V"⟩, 31)]
theorem lw_r2 : ∀ q ∈ lw_privs_2, lw_okq q := List.forall_mem_cons.mpr ⟨lw_p16, List.forall_mem_cons.mpr ⟨lw_p17, List.forall_mem_cons.mpr ⟨lw_p18, List.forall_mem_cons.mpr ⟨lw_p19, List.forall_mem_cons.mpr ⟨lw_p20, List.forall_mem_cons.mpr ⟨lw_p21, List.forall_mem_cons.mpr ⟨lw_p22, List.forall_mem_cons.mpr ⟨lw_p23, List.forall_mem_cons.mpr ⟨lw_p24, List.forall_mem_cons.mpr ⟨lw_p25, List.forall_mem_cons.mpr ⟨lw_p26, List.forall_mem_cons.mpr ⟨lw_p27, List.forall_mem_cons.mpr ⟨lw_p28, fun _ h => absurd h List.not_mem_nil⟩⟩⟩⟩⟩⟩⟩⟩⟩⟩⟩⟩⟩
def lw_privs : List (MethodName × Nat) := lw_privs_1 ++ (lw_privs_2)
def lw_tbl : List Cond := k2_sels lw_privs ++ tables_1
theorem lw_privs_ok : ∀ q ∈ lw_privs, lw_okq q := by
  show ∀ q ∈ lw_privs_1 ++ (lw_privs_2), lw_okq q
  exact List.forall_mem_append.mpr ⟨lw_r1, lw_r2⟩
end
section
def RX0 : String := "BellHouse$Act"
def TX0 : u_T := fun k => match k with
  | 0 => ("BellHouse$Act", "sort", "I", true)
  | 1 => ("BellHouse$Act", "a", "I", true)
  | 2 => ("BellHouse$Act", "b", "I", true)
  | 3 => ("BellHouse$Act", "kept", "J", true)
  | 4 => ("BellHouse$Act", "first", "LBellHouse$Act;", true)
  | 5 => ("BellHouse$Act", "second", "LBellHouse$Act;", true)
  | _ => ("BellHouse$Act", "begun", "I", false)
def tyX0 : Nat → FieldType := fun k => match k with
  | 0 => .int
  | 1 => .int
  | 2 => .int
  | 3 => .long
  | 4 => .object "BellHouse$Act"
  | 5 => .object "BellHouse$Act"
  | _ => .int
theorem nmX0 : ∀ a, a < 7 → ∀ b, b < 7 → a ≠ b → (TX0 a).2.1 ≠ (TX0 b).2.1 := by decide +kernel
theorem tyX0_ok : ∀ k, k < 7 → parseFieldDescriptor (TX0 k).2.2.1 = some (tyX0 k) := by decide +kernel
abbrev cX0_init : ByteArray := prog_2_method_1_code
def yX0_init : MethodName := ⟨RX0, "<init>", "(IIIJLBellHouse$Act;LBellHouse$Act;)V"⟩
def RX1 : String := "BellHouse$Bell"
def TX1 : u_T := fun k => match k with
  | 0 => ("BellHouse$Bell", "hearersInLine", "[I", true)
  | 1 => ("BellHouse$Bell", "length", "I", false)
  | _ => ("BellHouse$Bell", "way", "I", false)
def tyX1 : Nat → FieldType := fun k => match k with
  | 0 => .array .int
  | 1 => .int
  | _ => .int
theorem nmX1 : ∀ a, a < 3 → ∀ b, b < 3 → a ≠ b → (TX1 a).2.1 ≠ (TX1 b).2.1 := by decide +kernel
theorem tyX1_ok : ∀ k, k < 3 → parseFieldDescriptor (TX1 k).2.2.1 = some (tyX1 k) := by decide +kernel
abbrev cX1_init : ByteArray := prog_3_method_1_code
def yX1_init : MethodName := ⟨RX1, "<init>", "()V"⟩
abbrev cX1_hearerAt : ByteArray := prog_3_method_2_code
def yX1_hearerAt : MethodName := ⟨RX1, "hearerAt", "(I)I"⟩
abbrev cX1_placeOf : ByteArray := prog_3_method_3_code
def yX1_placeOf : MethodName := ⟨RX1, "placeOf", "(I)I"⟩
abbrev cX1_append : ByteArray := prog_3_method_4_code
def yX1_append : MethodName := ⟨RX1, "append", "(I)I"⟩
abbrev cX1_remove : ByteArray := prog_3_method_5_code
def yX1_remove : MethodName := ⟨RX1, "remove", "(I)I"⟩
abbrev cX1_copyLine : ByteArray := prog_3_method_6_code
def yX1_copyLine : MethodName := ⟨RX1, "copyLine", "([I)I"⟩
def RX2 : String := "BellHouse$Queue"
def TX2 : u_T := fun k => match k with
  | 0 => ("BellHouse$Queue", "bellsLaid", "[I", true)
  | 1 => ("BellHouse$Queue", "valuesLaid", "[J", true)
  | 2 => ("BellHouse$Queue", "head", "I", false)
  | _ => ("BellHouse$Queue", "size", "I", false)
def tyX2 : Nat → FieldType := fun k => match k with
  | 0 => .array .int
  | 1 => .array .long
  | 2 => .int
  | _ => .int
theorem nmX2 : ∀ a, a < 4 → ∀ b, b < 4 → a ≠ b → (TX2 a).2.1 ≠ (TX2 b).2.1 := by decide +kernel
theorem tyX2_ok : ∀ k, k < 4 → parseFieldDescriptor (TX2 k).2.2.1 = some (tyX2 k) := by decide +kernel
abbrev cX2_init : ByteArray := prog_4_method_1_code
def yX2_init : MethodName := ⟨RX2, "<init>", "()V"⟩
abbrev cX2_append : ByteArray := prog_4_method_2_code
def yX2_append : MethodName := ⟨RX2, "append", "(IJ)Z"⟩
abbrev cX2_bellAt : ByteArray := prog_4_method_3_code
def yX2_bellAt : MethodName := ⟨RX2, "bellAt", "(I)I"⟩
abbrev cX2_firstBell : ByteArray := prog_4_method_4_code
def yX2_firstBell : MethodName := ⟨RX2, "firstBell", "()I"⟩
abbrev cX2_firstValue : ByteArray := prog_4_method_5_code
def yX2_firstValue : MethodName := ⟨RX2, "firstValue", "()J"⟩
abbrev cX2_dropFirst : ByteArray := prog_4_method_6_code
def yX2_dropFirst : MethodName := ⟨RX2, "dropFirst", "()V"⟩
def RX3 : String := "BellHouse"
def TX3 : u_T := fun k => match k with
  | 0 => ("BellHouse", "tallies", "[J", true)
  | 1 => ("BellHouse", "bells", "[LBellHouse$Bell;", true)
  | 2 => ("BellHouse", "queue", "LBellHouse$Queue;", true)
  | 3 => ("BellHouse", "ownActs", "[LBellHouse$Act;", true)
  | 4 => ("BellHouse", "actsHad", "[LBellHouse$Act;", true)
  | 5 => ("BellHouse", "hearers", "I", false)
  | 6 => ("BellHouse", "toldRows", "[[I", true)
  | 7 => ("BellHouse", "ringingsUnderWay", "I", false)
  | 8 => ("BellHouse", "stepsOfCall", "I", false)
  | 9 => ("BellHouse", "stepsEver", "I", false)
  | 10 => ("BellHouse", "ringingsEver", "I", false)
  | 11 => ("BellHouse", "misses", "I", false)
  | 12 => ("BellHouse", "failedCalls", "I", false)
  | 13 => ("BellHouse", "metByTries", "I", false)
  | 14 => ("BellHouse", "stops", "I", false)
  | 15 => ("BellHouse", "latestFailure", "I", false)
  | _ => ("BellHouse", "failuresMet", "I", false)
def tyX3 : Nat → FieldType := fun k => match k with
  | 0 => .array .long
  | 1 => .array (.object "BellHouse$Bell")
  | 2 => .object "BellHouse$Queue"
  | 3 => .array (.object "BellHouse$Act")
  | 4 => .array (.object "BellHouse$Act")
  | 5 => .int
  | 6 => .array (.array .int)
  | 7 => .int
  | 8 => .int
  | 9 => .int
  | 10 => .int
  | 11 => .int
  | 12 => .int
  | 13 => .int
  | 14 => .int
  | 15 => .int
  | _ => .int
theorem nmX3 : ∀ a, a < 17 → ∀ b, b < 17 → a ≠ b → (TX3 a).2.1 ≠ (TX3 b).2.1 := by decide +kernel
theorem tyX3_ok : ∀ k, k < 17 → parseFieldDescriptor (TX3 k).2.2.1 = some (tyX3 k) := by decide +kernel
abbrev cX3_init : ByteArray := prog_1_method_1_code
def yX3_init : MethodName := ⟨RX3, "<init>", "()V"⟩
abbrev cX3_tally : ByteArray := prog_1_method_2_code
def yX3_tally : MethodName := ⟨RX3, "tally", "(IJ)I"⟩
abbrev cX3_way : ByteArray := prog_1_method_3_code
def yX3_way : MethodName := ⟨RX3, "way", "(II)I"⟩
abbrev cX3_hearer : ByteArray := prog_1_method_4_code
def yX3_hearer : MethodName := ⟨RX3, "hearer", "(III)I"⟩
abbrev cX3_bind : ByteArray := prog_1_method_5_code
def yX3_bind : MethodName := ⟨RX3, "bind", "(II)I"⟩
abbrev cX3_leave : ByteArray := prog_1_method_6_code
def yX3_leave : MethodName := ⟨RX3, "leave", "(II)I"⟩
abbrev cX3_take : ByteArray := prog_1_method_7_code
def yX3_take : MethodName := ⟨RX3, "take", "(I)I"⟩
abbrev cX3_lend : ByteArray := prog_1_method_8_code
def yX3_lend : MethodName := ⟨RX3, "lend", "(II)I"⟩
abbrev cX3_ring : ByteArray := prog_1_method_9_code
def yX3_ring : MethodName := ⟨RX3, "ring", "(IJ)I"⟩
abbrev cX3_drain : ByteArray := prog_1_method_10_code
def yX3_drain : MethodName := ⟨RX3, "drain", "()I"⟩
abbrev cX3_act : ByteArray := prog_1_method_11_code
def yX3_act : MethodName := ⟨RX3, "act", "(IJ)I"⟩
abbrev cX3_get : ByteArray := prog_1_method_12_code
def yX3_get : MethodName := ⟨RX3, "get", "(I)J"⟩
abbrev cX3_line : ByteArray := prog_1_method_13_code
def yX3_line : MethodName := ⟨RX3, "line", "(II)I"⟩
abbrev cX3_queued : ByteArray := prog_1_method_14_code
def yX3_queued : MethodName := ⟨RX3, "queued", "(I)I"⟩
abbrev cX3_count : ByteArray := prog_1_method_15_code
def yX3_count : MethodName := ⟨RX3, "count", "(I)I"⟩
abbrev cX3_done : ByteArray := prog_1_method_16_code
def yX3_done : MethodName := ⟨RX3, "done", "(I)I"⟩
abbrev cX3_isTally : ByteArray := prog_1_method_17_code
def yX3_isTally : MethodName := ⟨RX3, "isTally", "(J)Z"⟩
abbrev cX3_isBell : ByteArray := prog_1_method_18_code
def yX3_isBell : MethodName := ⟨RX3, "isBell", "(I)Z"⟩
abbrev cX3_isHearer : ByteArray := prog_1_method_19_code
def yX3_isHearer : MethodName := ⟨RX3, "isHearer", "(I)Z"⟩
abbrev cX3_canBeMade : ByteArray := prog_1_method_20_code
def yX3_canBeMade : MethodName := ⟨RX3, "canBeMade", "(III)Z"⟩
abbrev cX3_makeHearer : ByteArray := prog_1_method_21_code
def yX3_makeHearer : MethodName := ⟨RX3, "makeHearer", "(III)I"⟩
abbrev cX3_answerOfCall : ByteArray := prog_1_method_22_code
def yX3_answerOfCall : MethodName := ⟨RX3, "answerOfCall", "(I)I"⟩
abbrev cX3_ringQueueAfter : ByteArray := prog_1_method_23_code
def yX3_ringQueueAfter : MethodName := ⟨RX3, "ringQueueAfter", "(I)I"⟩
abbrev cX3_ringBell : ByteArray := prog_1_method_24_code
def yX3_ringBell : MethodName := ⟨RX3, "ringBell", "(IJ)I"⟩
abbrev cX3_perform : ByteArray := prog_1_method_25_code
def yX3_perform : MethodName := ⟨RX3, "perform", "(LBellHouse$Act;J)I"⟩
abbrev cX3_performAlone : ByteArray := prog_1_method_26_code
def yX3_performAlone : MethodName := ⟨RX3, "performAlone", "(LBellHouse$Act;J)I"⟩
abbrev cX3_shareTally : ByteArray := prog_1_method_27_code
def yX3_shareTally : MethodName := ⟨RX3, "shareTally", "(IJ)I"⟩
abbrev cX3_addAtPlace : ByteArray := prog_1_method_28_code
def yX3_addAtPlace : MethodName := ⟨RX3, "addAtPlace", "(JI)I"⟩
abbrev cX3_removeFromAllLines : ByteArray := prog_1_method_29_code
def yX3_removeFromAllLines : MethodName := ⟨RX3, "removeFromAllLines", "(I)V"⟩
abbrev cX3_metByBell : ByteArray := prog_1_method_30_code
def yX3_metByBell : MethodName := ⟨RX3, "metByBell", "(LBellHouse$Bell;I)I"⟩
abbrev cX3_metByTry : ByteArray := prog_1_method_31_code
def yX3_metByTry : MethodName := ⟨RX3, "metByTry", "(LBellHouse$Act;I)I"⟩
abbrev cX3_canBeMet : ByteArray := prog_1_method_32_code
def yX3_canBeMet : MethodName := ⟨RX3, "canBeMet", "(I)Z"⟩
abbrev cX3_wellIfStopped : ByteArray := prog_1_method_33_code
def yX3_wellIfStopped : MethodName := ⟨RX3, "wellIfStopped", "(I)I"⟩
def RX4 : String := "BellHouseModel"
def TX4 : u_T := fun k => match k with
  | 0 => ("BellHouseModel", "tallies", "[J", true)
  | 1 => ("BellHouseModel", "ways", "[I", true)
  | 2 => ("BellHouseModel", "lines", "[I", true)
  | 3 => ("BellHouseModel", "long0", "[I", true)
  | 4 => ("BellHouseModel", "many", "I", false)
  | 5 => ("BellHouseModel", "sorts", "[I", true)
  | 6 => ("BellHouseModel", "as", "[I", true)
  | 7 => ("BellHouseModel", "bs", "[I", true)
  | 8 => ("BellHouseModel", "was", "[J", true)
  | 9 => ("BellHouseModel", "one", "[I", true)
  | 10 => ("BellHouseModel", "two", "[I", true)
  | 11 => ("BellHouseModel", "times", "[I", true)
  | 12 => ("BellHouseModel", "began", "[I", true)
  | 13 => ("BellHouseModel", "has", "[I", true)
  | 14 => ("BellHouseModel", "queueBell", "[I", true)
  | 15 => ("BellHouseModel", "queueValue", "[J", true)
  | 16 => ("BellHouseModel", "queue", "I", false)
  | 17 => ("BellHouseModel", "pile", "I", false)
  | 18 => ("BellHouseModel", "what", "[I", true)
  | 19 => ("BellHouseModel", "of", "[I", true)
  | 20 => ("BellHouseModel", "with", "[J", true)
  | 21 => ("BellHouseModel", "next", "[I", true)
  | 22 => ("BellHouseModel", "size", "[I", true)
  | 23 => ("BellHouseModel", "rows", "[I", true)
  | 24 => ("BellHouseModel", "deep", "I", false)
  | 25 => ("BellHouseModel", "steps", "I", false)
  | 26 => ("BellHouseModel", "failure", "I", false)
  | 27 => ("BellHouseModel", "stops", "Z", false)
  | 28 => ("BellHouseModel", "beginning", "I", false)
  | 29 => ("BellHouseModel", "value", "J", false)
  | _ => ("BellHouseModel", "counts", "[I", true)
def tyX4 : Nat → FieldType := fun k => match k with
  | 0 => .array .long
  | 1 => .array .int
  | 2 => .array .int
  | 3 => .array .int
  | 4 => .int
  | 5 => .array .int
  | 6 => .array .int
  | 7 => .array .int
  | 8 => .array .long
  | 9 => .array .int
  | 10 => .array .int
  | 11 => .array .int
  | 12 => .array .int
  | 13 => .array .int
  | 14 => .array .int
  | 15 => .array .long
  | 16 => .int
  | 17 => .int
  | 18 => .array .int
  | 19 => .array .int
  | 20 => .array .long
  | 21 => .array .int
  | 22 => .array .int
  | 23 => .array .int
  | 24 => .int
  | 25 => .int
  | 26 => .int
  | 27 => .boolean
  | 28 => .int
  | 29 => .long
  | _ => .array .int
theorem nmX4 : ∀ a, a < 31 → ∀ b, b < 31 → a ≠ b → (TX4 a).2.1 ≠ (TX4 b).2.1 := by decide +kernel
theorem tyX4_ok : ∀ k, k < 31 → parseFieldDescriptor (TX4 k).2.2.1 = some (tyX4 k) := by decide +kernel
abbrev cX4_init : ByteArray := prog_6_method_1_code
def yX4_init : MethodName := ⟨RX4, "<init>", "()V"⟩
abbrev cX4_in : ByteArray := prog_6_method_3_code
def yX4_in : MethodName := ⟨RX4, "in", "(JJJ)Z"⟩
abbrev cX4_isHearer : ByteArray := prog_6_method_4_code
def yX4_isHearer : MethodName := ⟨RX4, "isHearer", "(I)Z"⟩
abbrev cX4_isBell : ByteArray := prog_6_method_5_code
def yX4_isBell : MethodName := ⟨RX4, "isBell", "(I)Z"⟩
abbrev cX4_isTally : ByteArray := prog_6_method_6_code
def yX4_isTally : MethodName := ⟨RX4, "isTally", "(I)Z"⟩
abbrev cX4_tally : ByteArray := prog_6_method_7_code
def yX4_tally : MethodName := ⟨RX4, "tally", "(IJ)I"⟩
abbrev cX4_way : ByteArray := prog_6_method_8_code
def yX4_way : MethodName := ⟨RX4, "way", "(II)I"⟩
abbrev cX4_make : ByteArray := prog_6_method_9_code
def yX4_make : MethodName := ⟨RX4, "make", "(III)V"⟩
abbrev cX4_hearer : ByteArray := prog_6_method_10_code
def yX4_hearer : MethodName := ⟨RX4, "hearer", "(III)I"⟩
abbrev cX4_placeOf : ByteArray := prog_6_method_11_code
def yX4_placeOf : MethodName := ⟨RX4, "placeOf", "(II)I"⟩
abbrev cX4_put : ByteArray := prog_6_method_12_code
def yX4_put : MethodName := ⟨RX4, "put", "(II)V"⟩
abbrev cX4_out : ByteArray := prog_6_method_13_code
def yX4_out : MethodName := ⟨RX4, "out", "(II)I"⟩
abbrev cX4_bind : ByteArray := prog_6_method_14_code
def yX4_bind : MethodName := ⟨RX4, "bind", "(II)I"⟩
abbrev cX4_leave : ByteArray := prog_6_method_15_code
def yX4_leave : MethodName := ⟨RX4, "leave", "(II)I"⟩
abbrev cX4_take : ByteArray := prog_6_method_16_code
def yX4_take : MethodName := ⟨RX4, "take", "(I)I"⟩
abbrev cX4_lend : ByteArray := prog_6_method_17_code
def yX4_lend : MethodName := ⟨RX4, "lend", "(II)I"⟩
abbrev cX4_heap : ByteArray := prog_6_method_18_code
def yX4_heap : MethodName := ⟨RX4, "heap", "(IIJ)V"⟩
abbrev cX4_rings : ByteArray := prog_6_method_19_code
def yX4_rings : MethodName := ⟨RX4, "rings", "(IJ)V"⟩
abbrev cX4_begins : ByteArray := prog_6_method_20_code
def yX4_begins : MethodName := ⟨RX4, "begins", "(IJ)V"⟩
abbrev cX4_does : ByteArray := prog_6_method_21_code
def yX4_does : MethodName := ⟨RX4, "does", "()V"⟩
abbrev cX4_doesOthers : ByteArray := prog_6_method_22_code
def yX4_doesOthers : MethodName := ⟨RX4, "doesOthers", "(IJ)V"⟩
abbrev cX4_fails : ByteArray := prog_6_method_23_code
def yX4_fails : MethodName := ⟨RX4, "fails", "()V"⟩
abbrev cX4_stop : ByteArray := prog_6_method_24_code
def yX4_stop : MethodName := ⟨RX4, "stop", "()V"⟩
abbrev cX4_goesOn : ByteArray := prog_6_method_25_code
def yX4_goesOn : MethodName := ⟨RX4, "goesOn", "()V"⟩
abbrev cX4_works : ByteArray := prog_6_method_26_code
def yX4_works : MethodName := ⟨RX4, "works", "()V"⟩
abbrev cX4_ready : ByteArray := prog_6_method_27_code
def yX4_ready : MethodName := ⟨RX4, "ready", "()V"⟩
abbrev cX4_all : ByteArray := prog_6_method_28_code
def yX4_all : MethodName := ⟨RX4, "all", "()I"⟩
abbrev cX4_ring : ByteArray := prog_6_method_29_code
def yX4_ring : MethodName := ⟨RX4, "ring", "(IJ)I"⟩
abbrev cX4_drain : ByteArray := prog_6_method_30_code
def yX4_drain : MethodName := ⟨RX4, "drain", "()I"⟩
abbrev cX4_act : ByteArray := prog_6_method_31_code
def yX4_act : MethodName := ⟨RX4, "act", "(IJ)I"⟩
abbrev cX4_get : ByteArray := prog_6_method_32_code
def yX4_get : MethodName := ⟨RX4, "get", "(I)J"⟩
abbrev cX4_line : ByteArray := prog_6_method_33_code
def yX4_line : MethodName := ⟨RX4, "line", "(II)I"⟩
abbrev cX4_queued : ByteArray := prog_6_method_34_code
def yX4_queued : MethodName := ⟨RX4, "queued", "(I)I"⟩
abbrev cX4_count : ByteArray := prog_6_method_35_code
def yX4_count : MethodName := ⟨RX4, "count", "(I)I"⟩
abbrev cX4_done : ByteArray := prog_6_method_36_code
def yX4_done : MethodName := ⟨RX4, "done", "(I)I"⟩
def RJ9 : String := "java/lang/Math"
def TJ9 : u_T := fun k => match k with
  | _ => ("", "", "", false)
def tyJ9 : Nat → FieldType := fun k => match k with
  | _ => .int
theorem nmJ9 : ∀ a, a < 0 → ∀ b, b < 0 → a ≠ b → (TJ9 a).2.1 ≠ (TJ9 b).2.1 := by decide +kernel
theorem tyJ9_ok : ∀ k, k < 0 → parseFieldDescriptor (TJ9 k).2.2.1 = some (tyJ9 k) := by decide +kernel
abbrev cJ9_max_7cf53 : ByteArray := prog_7_method_65_code
def yJ9_max_7cf53 : MethodName := ⟨RJ9, "max", "(II)I"⟩
abbrev cJ9_max_f86c9 : ByteArray := prog_7_method_66_code
def yJ9_max_f86c9 : MethodName := ⟨RJ9, "max", "(JJ)J"⟩
def RL : String := "BellHouseLaw"
abbrev cL_law : ByteArray := code
def yL_law : MethodName := ⟨RL, "law", "([I)Z"⟩
abbrev vwCl : List vw_C := [(RX0, TX0, 7), (RX1, TX1, 3), (RX2, TX2, 4), (RX3, TX3, 17), (RX4, TX4, 31)]
end
section
/-! the mini-machine's tables: a method is (its class, its name, its bytes, its locals, what it returns, how many parameters) -/
abbrev mm_T : Type := Nat × MethodName × ByteArray × Nat × Option FieldType × Nat
def mX0_init : mm_T := (0, yX0_init, cX0_init, 8, none, 6)
def mX1_init : mm_T := (1, yX1_init, cX1_init, 1, none, 0)
def mX1_hearerAt : mm_T := (1, yX1_hearerAt, cX1_hearerAt, 2, (some .int), 1)
def mX1_placeOf : mm_T := (1, yX1_placeOf, cX1_placeOf, 3, (some .int), 1)
def mX1_append : mm_T := (1, yX1_append, cX1_append, 2, (some .int), 1)
def mX1_remove : mm_T := (1, yX1_remove, cX1_remove, 4, (some .int), 1)
def mX1_copyLine : mm_T := (1, yX1_copyLine, cX1_copyLine, 3, (some .int), 1)
def mX2_init : mm_T := (2, yX2_init, cX2_init, 1, none, 0)
def mX2_append : mm_T := (2, yX2_append, cX2_append, 5, (some .boolean), 2)
def mX2_bellAt : mm_T := (2, yX2_bellAt, cX2_bellAt, 2, (some .int), 1)
def mX2_firstBell : mm_T := (2, yX2_firstBell, cX2_firstBell, 1, (some .int), 0)
def mX2_firstValue : mm_T := (2, yX2_firstValue, cX2_firstValue, 1, (some .long), 0)
def mX2_dropFirst : mm_T := (2, yX2_dropFirst, cX2_dropFirst, 1, none, 0)
def mX3_init : mm_T := (3, yX3_init, cX3_init, 2, none, 0)
def mX3_tally : mm_T := (3, yX3_tally, cX3_tally, 4, (some .int), 2)
def mX3_way : mm_T := (3, yX3_way, cX3_way, 4, (some .int), 2)
def mX3_hearer : mm_T := (3, yX3_hearer, cX3_hearer, 4, (some .int), 3)
def mX3_bind : mm_T := (3, yX3_bind, cX3_bind, 3, (some .int), 2)
def mX3_leave : mm_T := (3, yX3_leave, cX3_leave, 3, (some .int), 2)
def mX3_take : mm_T := (3, yX3_take, cX3_take, 3, (some .int), 1)
def mX3_lend : mm_T := (3, yX3_lend, cX3_lend, 3, (some .int), 2)
def mX3_ring : mm_T := (3, yX3_ring, cX3_ring, 4, (some .int), 2)
def mX3_drain : mm_T := (3, yX3_drain, cX3_drain, 1, (some .int), 0)
def mX3_act : mm_T := (3, yX3_act, cX3_act, 4, (some .int), 2)
def mX3_get : mm_T := (3, yX3_get, cX3_get, 2, (some .long), 1)
def mX3_line : mm_T := (3, yX3_line, cX3_line, 3, (some .int), 2)
def mX3_queued : mm_T := (3, yX3_queued, cX3_queued, 2, (some .int), 1)
def mX3_count : mm_T := (3, yX3_count, cX3_count, 2, (some .int), 1)
def mX3_done : mm_T := (3, yX3_done, cX3_done, 2, (some .int), 1)
def mX3_isTally : mm_T := (3, yX3_isTally, cX3_isTally, 2, (some .boolean), 1)
def mX3_isBell : mm_T := (3, yX3_isBell, cX3_isBell, 1, (some .boolean), 1)
def mX3_isHearer : mm_T := (3, yX3_isHearer, cX3_isHearer, 2, (some .boolean), 1)
def mX3_canBeMade : mm_T := (3, yX3_canBeMade, cX3_canBeMade, 4, (some .boolean), 3)
def mX3_makeHearer : mm_T := (3, yX3_makeHearer, cX3_makeHearer, 9, (some .int), 3)
def mX3_answerOfCall : mm_T := (3, yX3_answerOfCall, cX3_answerOfCall, 2, (some .int), 1)
def mX3_ringQueueAfter : mm_T := (3, yX3_ringQueueAfter, cX3_ringQueueAfter, 8, (some .int), 1)
def mX3_ringBell : mm_T := (3, yX3_ringBell, cX3_ringBell, 10, (some .int), 2)
def mX3_perform : mm_T := (3, yX3_perform, cX3_perform, 5, (some .int), 2)
def mX3_performAlone : mm_T := (3, yX3_performAlone, cX3_performAlone, 4, (some .int), 2)
def mX3_shareTally : mm_T := (3, yX3_shareTally, cX3_shareTally, 4, (some .int), 2)
def mX3_addAtPlace : mm_T := (3, yX3_addAtPlace, cX3_addAtPlace, 4, (some .int), 2)
def mX3_removeFromAllLines : mm_T := (3, yX3_removeFromAllLines, cX3_removeFromAllLines, 3, none, 1)
def mX3_metByBell : mm_T := (3, yX3_metByBell, cX3_metByBell, 3, (some .int), 2)
def mX3_metByTry : mm_T := (3, yX3_metByTry, cX3_metByTry, 3, (some .int), 2)
def mX3_canBeMet : mm_T := (3, yX3_canBeMet, cX3_canBeMet, 1, (some .boolean), 1)
def mX3_wellIfStopped : mm_T := (3, yX3_wellIfStopped, cX3_wellIfStopped, 1, (some .int), 1)
def mX4_init : mm_T := (4, yX4_init, cX4_init, 1, none, 0)
def mX4_in : mm_T := (4, yX4_in, cX4_in, 6, (some .boolean), 3)
def mX4_isHearer : mm_T := (4, yX4_isHearer, cX4_isHearer, 2, (some .boolean), 1)
def mX4_isBell : mm_T := (4, yX4_isBell, cX4_isBell, 1, (some .boolean), 1)
def mX4_isTally : mm_T := (4, yX4_isTally, cX4_isTally, 1, (some .boolean), 1)
def mX4_tally : mm_T := (4, yX4_tally, cX4_tally, 4, (some .int), 2)
def mX4_way : mm_T := (4, yX4_way, cX4_way, 4, (some .int), 2)
def mX4_make : mm_T := (4, yX4_make, cX4_make, 5, none, 3)
def mX4_hearer : mm_T := (4, yX4_hearer, cX4_hearer, 4, (some .int), 3)
def mX4_placeOf : mm_T := (4, yX4_placeOf, cX4_placeOf, 5, (some .int), 2)
def mX4_put : mm_T := (4, yX4_put, cX4_put, 3, none, 2)
def mX4_out : mm_T := (4, yX4_out, cX4_out, 5, (some .int), 2)
def mX4_bind : mm_T := (4, yX4_bind, cX4_bind, 3, (some .int), 2)
def mX4_leave : mm_T := (4, yX4_leave, cX4_leave, 3, (some .int), 2)
def mX4_take : mm_T := (4, yX4_take, cX4_take, 3, (some .int), 1)
def mX4_lend : mm_T := (4, yX4_lend, cX4_lend, 3, (some .int), 2)
def mX4_heap : mm_T := (4, yX4_heap, cX4_heap, 5, none, 3)
def mX4_rings : mm_T := (4, yX4_rings, cX4_rings, 5, none, 2)
def mX4_begins : mm_T := (4, yX4_begins, cX4_begins, 4, none, 2)
def mX4_does : mm_T := (4, yX4_does, cX4_does, 6, none, 0)
def mX4_doesOthers : mm_T := (4, yX4_doesOthers, cX4_doesOthers, 8, none, 2)
def mX4_fails : mm_T := (4, yX4_fails, cX4_fails, 3, none, 0)
def mX4_stop : mm_T := (4, yX4_stop, cX4_stop, 2, none, 0)
def mX4_goesOn : mm_T := (4, yX4_goesOn, cX4_goesOn, 3, none, 0)
def mX4_works : mm_T := (4, yX4_works, cX4_works, 3, none, 0)
def mX4_ready : mm_T := (4, yX4_ready, cX4_ready, 1, none, 0)
def mX4_all : mm_T := (4, yX4_all, cX4_all, 5, (some .int), 0)
def mX4_ring : mm_T := (4, yX4_ring, cX4_ring, 4, (some .int), 2)
def mX4_drain : mm_T := (4, yX4_drain, cX4_drain, 1, (some .int), 0)
def mX4_act : mm_T := (4, yX4_act, cX4_act, 4, (some .int), 2)
def mX4_get : mm_T := (4, yX4_get, cX4_get, 2, (some .long), 1)
def mX4_line : mm_T := (4, yX4_line, cX4_line, 3, (some .int), 2)
def mX4_queued : mm_T := (4, yX4_queued, cX4_queued, 2, (some .int), 1)
def mX4_count : mm_T := (4, yX4_count, cX4_count, 2, (some .int), 1)
def mX4_done : mm_T := (4, yX4_done, cX4_done, 2, (some .int), 1)
def mJ9_max_7cf53 : mm_T := (6, yJ9_max_7cf53, cJ9_max_7cf53, 2, (some .int), 2)
def mJ9_max_f86c9 : mm_T := (6, yJ9_max_f86c9, cJ9_max_f86c9, 4, (some .long), 2)
def mL_law : mm_T := (5, yL_law, cL_law, 4, some .boolean, 1)
def mm_M : List mm_T := [mX0_init, mX1_init, mX1_hearerAt, mX1_placeOf, mX1_append, mX1_remove, mX1_copyLine, mX2_init, mX2_append, mX2_bellAt, mX2_firstBell, mX2_firstValue, mX2_dropFirst, mX3_init, mX3_tally, mX3_way, mX3_hearer, mX3_bind, mX3_leave, mX3_take, mX3_lend, mX3_ring, mX3_drain, mX3_act, mX3_get, mX3_line, mX3_queued, mX3_count, mX3_done, mX3_isTally, mX3_isBell, mX3_isHearer, mX3_canBeMade, mX3_makeHearer, mX3_answerOfCall, mX3_ringQueueAfter, mX3_ringBell, mX3_perform, mX3_performAlone, mX3_shareTally, mX3_addAtPlace, mX3_removeFromAllLines, mX3_metByBell, mX3_metByTry, mX3_canBeMet, mX3_wellIfStopped, mX4_init, mX4_in, mX4_isHearer, mX4_isBell, mX4_isTally, mX4_tally, mX4_way, mX4_make, mX4_hearer, mX4_placeOf, mX4_put, mX4_out, mX4_bind, mX4_leave, mX4_take, mX4_lend, mX4_heap, mX4_rings, mX4_begins, mX4_does, mX4_doesOthers, mX4_fails, mX4_stop, mX4_goesOn, mX4_works, mX4_ready, mX4_all, mX4_ring, mX4_drain, mX4_act, mX4_get, mX4_line, mX4_queued, mX4_count, mX4_done, mJ9_max_7cf53, mJ9_max_f86c9]
def mm_cn (i : Nat) : String := match i with | 0 => RX0 | 1 => RX1 | 2 => RX2 | 3 => RX3 | 4 => RX4 | 5 => RL | _ => RJ9
def mm_ty (i : Nat) : Nat → FieldType := match i with | 0 => tyX0 | 1 => tyX1 | 2 => tyX2 | 3 => tyX3 | _ => tyX4
def mm_F (i : Nat) : u_T := match i with | 0 => TX0 | 1 => TX1 | 2 => TX2 | 3 => TX3 | _ => TX4
def mm_N (i : Nat) : Nat := match i with | 0 => 7 | 1 => 3 | 2 => 4 | 3 => 17 | _ => 31
/-- class, pool index: class of the object, place of the field -/
def mm_fldL : List (Nat × Nat × Nat × Nat) := [(2, 9, 2, 0), (2, 15, 2, 1), (2, 23, 2, 2), (2, 19, 2, 3), (3, 121, 2, 3), (1, 9, 1, 0), (1, 19, 1, 1), (1, 15, 1, 2), (3, 53, 1, 2), (0, 7, 0, 0), (3, 160, 0, 0), (0, 13, 0, 1), (3, 163, 0, 1), (0, 16, 0, 2), (3, 166, 0, 2), (0, 19, 0, 3), (3, 192, 0, 3), (0, 23, 0, 4), (3, 169, 0, 4), (0, 27, 0, 5), (3, 179, 0, 5), (3, 127, 0, 6), (3, 9, 3, 0), (3, 15, 3, 1), (3, 22, 3, 2), (3, 28, 3, 3), (3, 32, 3, 4), (3, 61, 3, 5), (3, 37, 3, 6), (3, 146, 3, 7), (3, 77, 3, 8), (3, 103, 3, 9), (3, 106, 3, 10), (3, 109, 3, 11), (3, 112, 3, 12), (3, 115, 3, 13), (3, 118, 3, 14), (3, 124, 3, 15), (3, 74, 3, 16), (4, 7, 4, 0), (4, 13, 4, 1), (4, 17, 4, 2), (4, 20, 4, 3), (4, 81, 4, 4), (4, 23, 4, 5), (4, 26, 4, 6), (4, 29, 4, 7), (4, 32, 4, 8), (4, 35, 4, 9), (4, 38, 4, 10), (4, 41, 4, 11), (4, 44, 4, 12), (4, 47, 4, 13), (4, 50, 4, 14), (4, 53, 4, 15), (4, 147, 4, 16), (4, 120, 4, 17), (4, 56, 4, 18), (4, 59, 4, 19), (4, 62, 4, 20), (4, 65, 4, 21), (4, 68, 4, 22), (4, 71, 4, 23), (4, 123, 4, 24), (4, 140, 4, 25), (4, 126, 4, 26), (4, 150, 4, 27), (4, 133, 4, 28), (4, 136, 4, 29), (4, 74, 4, 30)]
/-- class, pool index, how (0 static, 1 virtual, 2 a constructor, 3 a nest mate's constructor), the method -/
def mm_mthL : List (Nat × Nat × Nat × mm_T) := [(5, 9, 2, mX3_init), (3, 41, 1, mX3_makeHearer), (3, 132, 2, mX0_init), (5, 15, 1, mX3_tally), (3, 45, 0, mX3_isTally), (5, 20, 1, mX3_way), (3, 49, 0, mX3_isBell), (5, 25, 1, mX3_hearer), (3, 57, 1, mX3_canBeMade), (3, 64, 1, mX3_isHearer), (5, 30, 1, mX3_bind), (3, 67, 1, mX1_append), (1, 22, 1, mX1_placeOf), (5, 34, 1, mX3_leave), (3, 71, 1, mX1_remove), (5, 38, 1, mX3_take), (5, 43, 1, mX3_lend), (5, 47, 1, mX3_ring), (3, 80, 1, mX3_ringBell), (3, 149, 1, mX1_copyLine), (3, 153, 1, mX1_placeOf), (3, 90, 1, mX3_perform), (3, 182, 1, mX3_metByTry), (3, 210, 0, mX3_canBeMet), (3, 186, 1, mX3_performAlone), (3, 196, 1, mX3_shareTally), (3, 199, 1, mX3_addAtPlace), (3, 203, 1, mX2_append), (3, 206, 1, mX3_removeFromAllLines), (3, 156, 1, mX3_metByBell), (3, 94, 0, mX3_wellIfStopped), (3, 84, 1, mX3_ringQueueAfter), (3, 135, 1, mX2_firstBell), (3, 139, 1, mX2_firstValue), (3, 143, 1, mX2_dropFirst), (3, 87, 1, mX3_answerOfCall), (5, 51, 1, mX3_drain), (5, 56, 1, mX3_act), (5, 60, 1, mX3_get), (5, 65, 1, mX3_line), (3, 97, 1, mX1_hearerAt), (5, 69, 1, mX3_queued), (3, 100, 1, mX2_bellAt), (5, 73, 1, mX3_count), (5, 77, 1, mX3_done), (5, 12, 2, mX4_init), (4, 77, 1, mX4_make), (4, 85, 0, mX4_in), (5, 19, 1, mX4_tally), (4, 93, 0, mX4_isTally), (5, 24, 1, mX4_way), (4, 97, 0, mX4_isBell), (5, 29, 1, mX4_hearer), (4, 106, 1, mX4_isHearer), (5, 33, 1, mX4_bind), (4, 109, 1, mX4_placeOf), (4, 113, 1, mX4_put), (5, 37, 1, mX4_leave), (4, 117, 1, mX4_out), (5, 42, 1, mX4_take), (5, 46, 1, mX4_lend), (5, 50, 1, mX4_ring), (4, 175, 1, mX4_ready), (4, 143, 1, mX4_rings), (4, 129, 1, mX4_heap), (4, 178, 1, mX4_all), (4, 172, 1, mX4_works), (4, 160, 1, mX4_fails), (4, 163, 1, mX4_stop), (4, 166, 1, mX4_does), (4, 154, 1, mX4_doesOthers), (4, 157, 1, mX4_begins), (4, 169, 1, mX4_goesOn), (5, 55, 1, mX4_drain), (5, 59, 1, mX4_act), (5, 64, 1, mX4_get), (5, 68, 1, mX4_line), (5, 72, 1, mX4_queued), (5, 76, 1, mX4_count), (5, 80, 1, mX4_done), (3, 21, 3, mX2_init), (3, 40, 3, mX1_init)]
/-- class, pool index, 0 Math.max of ints, 1 of longs -/
def mm_maxL : List (Nat × Nat × Nat) := [(3, 173, 0), (3, 189, 1)]
def mm_objL : List (Nat × Nat) := [(3, 1), (2, 3), (1, 3), (0, 1), (4, 1)]
/-- class, pool index, the class that is named (9: int[][]) -/
def mm_clsL : List (Nat × Nat × Nat) := [(5, 7, 3), (3, 13, 1), (3, 19, 2), (3, 26, 0), (3, 35, 9), (5, 10, 4)]
def mm_ldcL : List (Nat × Nat × Int64) := [(3, 130, 8), (4, 100, 8), (4, 102, 12), (4, 91, 7), (4, 89, 5), (4, 104, 14), (4, 182, 9), (5, 13, 4294967295)]
end
section
/-! THE MINI-MACHINE: a pure interpreter of the bytecode that the claim reaches. A cell is (kind, contents): kinds 0 to 4 are the objects of the five classes (contents: the fields in order), 5 int[], 6 long[], 7 Act[], 8 Bell[], 9 int[][]. A heap is (the next address, slots used, cells). Address 0 is the script, which lies apart. -/
abbrev mm_C : Type := Nat × List Value
abbrev mm_H : Type := Nat × Nat × (Nat → Option mm_C)
abbrev mm_L : Type := List (Nat × Value)
abbrev mm_R : Type := (Nat × mm_L × List Value × mm_H) ⊕ ((mm_T × List Value × List Value) ⊕ Option Value)
def mm_up (h : mm_H) (a : Nat) (c : mm_C) : mm_H := (h.1, h.2.1, fun x => if x = a then some c else h.2.2 x)
def mm_new (h : mm_H) (c : mm_C) : mm_H := (h.1 + 1, h.2.1 + c.2.length, fun x => if x = h.1 then some c else h.2.2 x)
def mm_lk (ls : mm_L) (i : Nat) : Option Value := (ls.find? (fun q => q.1 == i)).map (fun q => q.2)
def mm_st1 (ls : mm_L) (i : Nat) (v : Value) : mm_L := (i, v) :: ls.filter (fun q => !(q.1 == i) && !(q.1 + 1 == i && q.2.category == 2))
def mm_st2 (ls : mm_L) (i : Nat) (v : Value) : mm_L := (i, v) :: ls.filter (fun q => !(q.1 == i) && (!(q.1 == i + 1) && !(q.1 + 1 == i && q.2.category == 2)))
def mm_fld (o i : Nat) : Option (Nat × Nat) := (mm_fldL.find? (fun e => e.1 == o && e.2.1 == i)).map (fun e => e.2.2)
def mm_mth (o i : Nat) : Option (Nat × mm_T) := (mm_mthL.find? (fun e => e.1 == o && e.2.1 == i)).map (fun e => e.2.2)
def mm_cls (o i : Nat) : Option Nat := (mm_clsL.find? (fun e => e.1 == o && e.2.1 == i)).map (fun e => e.2.2)
def mm_ldc (o i : Nat) : Option Int64 := (mm_ldcL.find? (fun e => e.1 == o && e.2.1 == i)).map (fun e => e.2.2)
def mm_max (o i : Nat) : Option Nat := (mm_maxL.find? (fun e => e.1 == o && e.2.1 == i)).map (fun e => e.2.2)
def mm_df (i : Nat) : List Value := (List.range (mm_N i)).map (fun k => defaultValue (mm_ty i k))
def mm_ld (ty pc : Nat) (ls : mm_L) (st : List Value) (h : mm_H) (i : Nat) : Option mm_R := match ty, mm_lk ls i with
  | 0, some (.int x) => some (.inl (pc, ls, .int x :: st, h))
  | 1, some (.long x) => some (.inl (pc, ls, .long x :: st, h))
  | 2, some (.ref x) => some (.inl (pc, ls, .ref x :: st, h))
  | 2, some .null => some (.inl (pc, ls, .null :: st, h))
  | _, _ => none
def mm_sto (ty nL pc : Nat) (ls : mm_L) (st : List Value) (h : mm_H) (i : Nat) : Option mm_R := match ty, st with
  | 0, .int x :: r => if i < nL then some (.inl (pc, mm_st1 ls i (.int x), r, h)) else none
  | 1, .long x :: r => if i + 1 < nL then some (.inl (pc, mm_st2 ls i (.long x), r, h)) else none
  | 2, .ref x :: r => if i < nL then some (.inl (pc, mm_st1 ls i (.ref x), r, h)) else none
  | 2, .null :: r => if i < nL then some (.inl (pc, mm_st1 ls i .null, r, h)) else none
  | _, _ => none
def mm_cmp (c : Jvm.ClassFile.Cond) (x y : Int32) : Bool := match c with
  | .eq => decide (x = y)
  | .ne => decide (¬ x = y)
  | .lt => decide (x < y)
  | .ge => decide (y ≤ x)
  | .gt => decide (y < x)
  | .le => decide (x ≤ y)
def mm_go (pc : Nat) (off : Int) (ls : mm_L) (st : List Value) (h : mm_H) : Option mm_R := if 0 ≤ (pc : Int) + off then some (.inl (((pc : Int) + off).toNat, ls, st, h)) else none
def mm_bi (ins : Instr) (x y : Int32) : Option Int32 := match ins with
  | .iadd => some (x + y)
  | .isub => some (x - y)
  | .imul => some (x * y)
  | .iand => some (x &&& y)
  | .irem => if y = 0 then none else some (x - x / y * y)
  | _ => none
def mm_bl (ins : Instr) (x y : Int64) : Option Int64 := match ins with
  | .ladd => some (x + y)
  | .land => some (x &&& y)
  | .lor => some (x ||| y)
  | .ldiv => if y = 0 then none else some (x / y)
  | _ => none
def mm_ix (vs : List Value) (j : Int32) : Option Value := if j < 0 then none else vs[j.toNatClampNeg]?
/-- a call: its arguments (this among them) off the stack, the words left below -/
def mm_call (t : mm_T) (n : Nat) (st : List Value) : Option mm_R :=
  if n ≤ st.length ∧ ((st.drop n).map fun v => v.category).sum ≤ 8 ∧ ((st.take n).map fun v => v.category).sum ≤ t.2.2.2.1 then some (.inr (.inl (t, (st.take n).reverse, st.drop n))) else none
/-- the receiver of a call is an object of kind k -/
def mm_this (h : mm_H) (n k : Nat) (st : List Value) : Bool := match st[n]? with
  | some (.ref a) => match h.2.2 a with
    | some c => c.1 == k
    | none => false
  | _ => false
def mm_rows (b : Nat) (k : Nat) : Nat → (Nat → Option mm_C) → Nat → Option mm_C
  | 0, f => f
  | n + 1, f => fun x => if x = b + n then some (5, List.replicate k (.int 0)) else mm_rows b k n f x
def mm_grid (h : mm_H) (n k : Nat) : mm_H := (h.1 + 1 + n, h.2.1 + (n + n * k), fun x => if x = h.1 then some (9, (List.range n).map (fun i => Value.ref (h.1 + 1 + i))) else mm_rows (h.1 + 1) k n h.2.2 x)
def mm_okv (h : mm_H) (k : Nat) (v : Value) : Bool := match v with
  | .null => true
  | .ref a => match h.2.2 a with
    | some c => c.1 == k
    | none => false
  | _ => false
def mm_x (sc : Option (List Int32)) (F : Nat) (M : mm_T) (ins : Instr) (pc : Nat) (ls : mm_L) (st : List Value) (h : mm_H) : Option mm_R := match ins with
  | .iconst n => some (.inl (pc + 1, ls, .int (Int32.ofInt n) :: st, h))
  | .bipush n => some (.inl (pc + 2, ls, .int (Int8.ofInt n).toInt32 :: st, h))
  | .sipush n => some (.inl (pc + 3, ls, .int (Int16.ofInt n).toInt32 :: st, h))
  | .lconst n => some (.inl (pc + 1, ls, .long (Int64.ofNat (n : Nat)) :: st, h))
  | .aconst_null => some (.inl (pc + 1, ls, .null :: st, h))
  | .ldc2_w i => match mm_ldc M.1 i with
    | some x => some (.inl (pc + 3, ls, .long x :: st, h))
    | none => none
  | .iload_n k => mm_ld 0 (pc + 1) ls st h k
  | .iload i => mm_ld 0 (pc + 2) ls st h i
  | .lload_n k => mm_ld 1 (pc + 1) ls st h k
  | .lload i => mm_ld 1 (pc + 2) ls st h i
  | .aload_n k => mm_ld 2 (pc + 1) ls st h k
  | .aload i => mm_ld 2 (pc + 2) ls st h i
  | .istore_n k => mm_sto 0 M.2.2.2.1 (pc + 1) ls st h k
  | .istore i => mm_sto 0 M.2.2.2.1 (pc + 2) ls st h i
  | .lstore_n k => mm_sto 1 M.2.2.2.1 (pc + 1) ls st h k
  | .lstore i => mm_sto 1 M.2.2.2.1 (pc + 2) ls st h i
  | .astore_n k => mm_sto 2 M.2.2.2.1 (pc + 1) ls st h k
  | .astore i => mm_sto 2 M.2.2.2.1 (pc + 2) ls st h i
  | .iinc i n => match mm_lk ls i with
    | some (.int x) => if i < M.2.2.2.1 then some (.inl (pc + 3, mm_st1 ls i (.int (x + Int32.ofInt n)), st, h)) else none
    | _ => none
  | .dup => match st with
    | v :: r => if v.category = 1 then some (.inl (pc + 1, ls, v :: v :: r, h)) else none
    | _ => none
  | .pop => match st with
    | v :: r => if v.category = 1 then some (.inl (pc + 1, ls, r, h)) else none
    | _ => none
  | .dup_x1 => match st with
    | v :: u :: r => if v.category = 1 ∧ u.category = 1 then some (.inl (pc + 1, ls, v :: u :: v :: r, h)) else none
    | _ => none
  | .dup2 => match st with
    | v :: u :: r => if v.category = 1 ∧ u.category = 1 then some (.inl (pc + 1, ls, v :: u :: v :: u :: r, h)) else none
    | _ => none
  | .i2l => match st with
    | .int x :: r => some (.inl (pc + 1, ls, .long x.toInt64 :: r, h))
    | _ => none
  | .l2i => match st with
    | .long x :: r => some (.inl (pc + 1, ls, .int x.toInt32 :: r, h))
    | _ => none
  | .lshl => match st with
    | .int y :: .long x :: r => some (.inl (pc + 1, ls, .long (x <<< (y.toInt64 &&& 63)) :: r, h))
    | _ => none
  | .lcmp => match st with
    | .long y :: .long x :: r => some (.inl (pc + 1, ls, .int (lg_cmp x y) :: r, h))
    | _ => none
  | .ifCond c off => match st with
    | .int x :: r => if mm_cmp c x 0 = true then mm_go pc off ls r h else some (.inl (pc + 3, ls, r, h))
    | _ => none
  | .if_icmp c off => match st with
    | .int y :: .int x :: r => if mm_cmp c x y = true then mm_go pc off ls r h else some (.inl (pc + 3, ls, r, h))
    | _ => none
  | .ifnonnull off => match st with
    | .null :: r => some (.inl (pc + 3, ls, r, h))
    | .ref _ :: r => mm_go pc off ls r h
    | _ => none
  | .goto off => mm_go pc off ls st h
  | .tableswitch d lo hi offs => match st with
    | .int x :: r => if x.toInt < lo ∨ hi < x.toInt then mm_go pc d ls r h else match offs[(x.toInt - lo).toNat]? with
      | some o => mm_go pc o ls r h
      | none => none
    | _ => none
  | .getfield i => match st, mm_fld M.1 i with
    | .ref a :: r, some (ci, k) => match h.2.2 a with
      | some c => if c.1 = ci then match c.2[k]? with
        | some v => some (.inl (pc + 3, ls, v :: r, h))
        | none => none
        else none
      | none => none
    | _, _ => none
  | .putfield i => match st, mm_fld M.1 i with
    | v :: .ref a :: r, some (ci, k) => match h.2.2 a with
      | some c => if c.1 = ci ∧ k < c.2.length ∧ narrow (mm_ty ci k) v = v ∧ fits (mm_ty ci k) v = true ∧ ((mm_F ci k).2.2.2 = false ∨ (M.2.1.name = "<init>" ∧ M.1 = ci)) then some (.inl (pc + 3, ls, r, mm_up h a (ci, c.2.set k v))) else none
      | none => none
    | _, _ => none
  | .iaload => match st with
    | .int j :: .ref a :: r => if a = 0 then match sc with
        | some xs => if j < 0 then none else match xs[j.toNatClampNeg]? with
          | some x => some (.inl (pc + 1, ls, .int x :: r, h))
          | none => none
        | none => none
      else match h.2.2 a with
        | some c => if c.1 = 5 then match mm_ix c.2 j with
          | some v => some (.inl (pc + 1, ls, v :: r, h))
          | none => none
          else none
        | none => none
    | _ => none
  | .laload => match st with
    | .int j :: .ref a :: r => match h.2.2 a with
      | some c => if c.1 = 6 then match mm_ix c.2 j with
        | some v => some (.inl (pc + 1, ls, v :: r, h))
        | none => none
        else none
      | none => none
    | _ => none
  | .aaload => match st with
    | .int j :: .ref a :: r => match h.2.2 a with
      | some c => if c.1 = 7 ∨ c.1 = 8 ∨ c.1 = 9 then match mm_ix c.2 j with
        | some v => some (.inl (pc + 1, ls, v :: r, h))
        | none => none
        else none
      | none => none
    | _ => none
  | .iastore => match st with
    | .int x :: .int j :: .ref a :: r => match h.2.2 a with
      | some c => if c.1 = 5 ∧ ¬ j < 0 ∧ j.toNatClampNeg < c.2.length then some (.inl (pc + 1, ls, r, mm_up h a (5, c.2.set j.toNatClampNeg (.int x)))) else none
      | none => none
    | _ => none
  | .lastore => match st with
    | .long x :: .int j :: .ref a :: r => match h.2.2 a with
      | some c => if c.1 = 6 ∧ ¬ j < 0 ∧ j.toNatClampNeg < c.2.length then some (.inl (pc + 1, ls, r, mm_up h a (6, c.2.set j.toNatClampNeg (.long x)))) else none
      | none => none
    | _ => none
  | .aastore => match st with
    | v :: .int j :: .ref a :: r => match h.2.2 a with
      | some c => if ((c.1 = 7 ∧ mm_okv h 0 v = true) ∨ (c.1 = 8 ∧ mm_okv h 1 v = true)) ∧ ¬ j < 0 ∧ j.toNatClampNeg < c.2.length then some (.inl (pc + 1, ls, r, mm_up h a (c.1, c.2.set j.toNatClampNeg v))) else none
      | none => none
    | _ => none
  | .arraylength => match st, sc with
    | .ref a :: r, some xs => if a = 0 then some (.inl (pc + 1, ls, .int (Int32.ofNat xs.length) :: r, h)) else none
    | _, _ => none
  | .newarray ty => match st, ty with
    | .int n :: r, .int => if n < 0 ∨ 10000 < n.toNatClampNeg then none else some (.inl (pc + 2, ls, .ref h.1 :: r, mm_new h (5, List.replicate n.toNatClampNeg (.int 0))))
    | .int n :: r, .long => if n < 0 ∨ 10000 < n.toNatClampNeg then none else some (.inl (pc + 2, ls, .ref h.1 :: r, mm_new h (6, List.replicate n.toNatClampNeg (.long 0))))
    | _, _ => none
  | .anewarray i => match st, mm_cls M.1 i with
    | .int n :: r, some k => if n < 0 ∨ 10000 < n.toNatClampNeg ∨ 1 < k then none else some (.inl (pc + 3, ls, .ref h.1 :: r, mm_new h (7 + k, List.replicate n.toNatClampNeg .null)))
    | _, _ => none
  | .multianewarray i d => match st, mm_cls M.1 i with
    | .int k :: .int n :: r, some 9 => if n < 0 ∨ k < 0 ∨ 10000 < n.toNatClampNeg ∨ 10000 < k.toNatClampNeg ∨ ¬ d = 2 then none else some (.inl (pc + 4, ls, .ref h.1 :: r, mm_grid h n.toNatClampNeg k.toNatClampNeg))
    | _, _ => none
  | .new i => match mm_cls M.1 i with
    | some k => if 4 < k then none else some (.inl (pc + 3, ls, .ref h.1 :: st, mm_new h (k, mm_df k)))
    | none => none
  | .invokestatic i => match mm_max M.1 i with
    | some k => match k, st with
      | 0, .int y :: .int x :: r => if 1 ≤ F ∧ (r.map fun v => v.category).sum ≤ 8 then some (.inl (pc + 3, ls, .int (if x < y then y else x) :: r, h)) else none
      | 1, .long y :: .long x :: r => if 1 ≤ F ∧ (r.map fun v => v.category).sum ≤ 8 then some (.inl (pc + 3, ls, .long (if y < x then x else y) :: r, h)) else none
      | _, _ => none
    | none => match mm_mth M.1 i with
      | some (0, t) => mm_call t t.2.2.2.2.2 st
      | _ => none
  | .invokevirtual i => match mm_mth M.1 i with
    | some (1, t) => if mm_this h t.2.2.2.2.2 t.1 st = true then mm_call t (t.2.2.2.2.2 + 1) st else none
    | _ => none
  | .invokespecial i => if mm_objL.contains (M.1, i) then match st with
      | .ref _ :: r => if 1 ≤ F ∧ (r.map fun v => v.category).sum ≤ 8 then some (.inl (pc + 3, ls, r, h)) else none
      | _ => none
    else match mm_mth M.1 i with
      | some (k, t) => if (k = 2 ∨ k = 3) ∧ mm_this h t.2.2.2.2.2 t.1 st = true then mm_call t (t.2.2.2.2.2 + 1) st else none
      | _ => none
  | .ireturn => match st with
    | [.int v] => if M.2.2.2.2.1 = some .int ∨ (M.2.2.2.2.1 = some .boolean ∧ (v = 0 ∨ v = 1)) then some (.inr (.inr (some (.int v)))) else none
    | _ => none
  | .lreturn => match st with
    | [.long v] => if M.2.2.2.2.1 = some .long then some (.inr (.inr (some (.long v)))) else none
    | _ => none
  | .return_ => match st with
    | [] => if M.2.2.2.2.1 = none then some (.inr (.inr none)) else none
    | _ => none
  | _ => match st with
    | .int y :: .int x :: r => match mm_bi ins x y with
      | some v => some (.inl (pc + 1, ls, .int v :: r, h))
      | none => none
    | .long y :: .long x :: r => match mm_bl ins x y with
      | some v => some (.inl (pc + 1, ls, .long v :: r, h))
      | none => none
    | _ => none
/-- how long an instruction is -/
def mm_ln (ins : Instr) : Nat := match ins with
  | .bipush _ | .iload _ | .lload _ | .aload _ | .istore _ | .lstore _ | .astore _ | .newarray _ => 2
  | .sipush _ | .ldc2_w _ | .iinc _ _ | .ifCond _ _ | .if_icmp _ _ | .ifnonnull _ | .goto _ | .getfield _ | .putfield _ | .invokevirtual _ | .invokestatic _ | .invokespecial _ | .new _ | .anewarray _ => 3
  | .multianewarray _ _ => 4
  | .tableswitch _ _ _ _ => 0
  | _ => 1
def mm_at (M : mm_T) (pc : Nat) : Option Instr := match decode M.2.2.1 pc with
  | .ok (ins, len) => if mm_ln ins = 0 ∨ mm_ln ins = len then some ins else none
  | .error _ => none
/-- a run: by fuel n, with room for F frames more -/
def mm_run : Nat → Option (List Int32) → Nat → mm_T → Nat → mm_L → List Value → mm_H → Option (Option Value × mm_H)
  | 0, _, _, _, _, _, _, _ => none
  | n + 1, sc, F, M, pc, ls, st, h => match mm_at M pc with
    | none => none
    | some ins => match mm_x sc F M ins pc ls st h with
      | none => none
      | some (.inl (pc', ls', st', h')) => mm_run n sc F M pc' ls' st' h'
      | some (.inr (.inl (t, as, rest))) => match F with
        | 0 => none
        | F' + 1 => match mm_run n none F' t 0 (lv_args 0 as) [] h with
          | none => none
          | some (r, h') => mm_run n sc (F' + 1) M (pc + 3) ls (r.toList ++ rest) h'
      | some (.inr (.inr r)) => some (r, h)
/-- the run comes to its end, and the end is as P says -/
def mW (sc : Option (List Int32)) (F : Nat) (M : mm_T) (pc : Nat) (ls : mm_L) (st : List Value) (h : mm_H) (P : Option Value → mm_H → Prop) : Prop :=
  ∃ n r h', mm_run n sc F M pc ls st h = some (r, h') ∧ P r h'
end
section
/-! HOW THE MINI-MACHINE STANDS TO THE MACHINE: mini address 0 is the script's cell, address a + 1 the a-th cell made since the law began; B = (the script's address, the heap's size at the law's start) -/
def mm_am (B : Nat × Nat) (a : Nat) : Nat := if a = 0 then B.1 else B.2 + (a - 1)
def mm_sh (B : Nat × Nat) (v : Value) : Value := match v with
  | .ref a => .ref (mm_am B a)
  | .int x => .int x
  | .long x => .long x
  | .float x => .float x
  | .double x => .double x
  | .null => .null
  | .retAddr x => .retAddr x
def mm_mp (B : Nat × Nat) (ls : mm_L) : List (Nat × Value) := ls.map (fun q => (q.1, mm_sh B q.2))
theorem mm_sh_cat (B : Nat × Nat) (v : Value) : (mm_sh B v).category = v.category := by cases v <;> rfl
theorem mm_am_inj {B : Nat × Nat} {a b : Nat} (ha : 0 < a) (hb : 0 < b) (h : mm_am B a = mm_am B b) : a = b := by
  unfold mm_am at h
  rw [if_neg (by omega), if_neg (by omega)] at h
  omega
theorem mm_lk_has {B : Nat × Nat} {lsA : Array Slot} {nL i : Nat} {ls : mm_L} {v : Value} (hl : lv_has lsA nL (mm_mp B ls)) (h : mm_lk ls i = some v) : lsA[i]? = some (.val (mm_sh B v)) := by
  unfold mm_lk at h
  obtain ⟨q, hq, hv⟩ := Option.map_eq_some_iff.mp h
  have h1 := List.find?_some hq
  have h2 := List.mem_of_find?_eq_some hq
  have h3 := hl.2.2 (q.1, mm_sh B q.2) (List.mem_map.mpr ⟨q, h2, rfl⟩)
  have h4 : q.1 = i := by simpa using h1
  rw [← hv, ← h4]
  exact h3
theorem mm_mp_st1 (B : Nat × Nat) (ls : mm_L) (i : Nat) (v : Value) : (i, mm_sh B v) :: (mm_mp B ls).filter (fun q => !(q.1 == i) && !(q.1 + 1 == i && q.2.category == 2)) = mm_mp B (mm_st1 ls i v) := by
  unfold mm_mp mm_st1
  rw [List.map_cons, List.filter_map]
  have h : ((fun q : Nat × Value => !(q.1 == i) && !(q.1 + 1 == i && q.2.category == 2)) ∘ fun q : Nat × Value => (q.1, mm_sh B q.2)) = (fun q : Nat × Value => !(q.1 == i) && !(q.1 + 1 == i && q.2.category == 2)) := by
    funext q
    simp [Function.comp, mm_sh_cat]
  rw [h]
theorem mm_mp_st2 (B : Nat × Nat) (ls : mm_L) (i : Nat) (v : Value) : (i, mm_sh B v) :: (mm_mp B ls).filter (fun q => !(q.1 == i) && (!(q.1 == i + 1) && !(q.1 + 1 == i && q.2.category == 2))) = mm_mp B (mm_st2 ls i v) := by
  unfold mm_mp mm_st2
  rw [List.map_cons, List.filter_map]
  have h : ((fun q : Nat × Value => !(q.1 == i) && (!(q.1 == i + 1) && !(q.1 + 1 == i && q.2.category == 2))) ∘ fun q : Nat × Value => (q.1, mm_sh B q.2)) = (fun q : Nat × Value => !(q.1 == i) && (!(q.1 == i + 1) && !(q.1 + 1 == i && q.2.category == 2))) := by
    funext q
    simp [Function.comp, mm_sh_cat]
  rw [h]
/-- a cell of the machine's heap is as the mini-machine has it -/
def mm_cell (D : va_G) (B : Nat × Nat) (a : Nat) (c : mm_C) (H : Heap) : Prop :=
  if c.1 < 5 then c.2.length = mm_N c.1 ∧ t_OB (mm_am B a) (D.1 c.1) (mm_N c.1) (D.2 c.1) H (vp_V (c.2.map (mm_sh B)))
  else H[mm_am B a]? = some (arrV (D.1 c.1) c.2.length (vp_V (c.2.map (mm_sh B))))
def mm_HP (D : va_G) (B : Nat × Nat) (h : mm_H) (H : Heap) : Prop :=
  1 ≤ h.1 ∧ H.size + 1 = B.2 + h.1 ∧ ∀ (a : Nat) (c : mm_C), h.2.2 a = some c → 0 < a ∧ a < h.1 ∧ mm_cell D B a c H
theorem mm_cell.kept {D : va_G} {B : Nat × Nat} {a : Nat} {c : mm_C} {H H1 : Heap} (h : mm_cell D B a c H) (hq : H1[mm_am B a]? = H[mm_am B a]?) : mm_cell D B a c H1 := by
  unfold mm_cell at h ⊢
  by_cases hk : c.1 < 5
  · rw [if_pos hk] at h ⊢
    exact ⟨h.1, h.2.kept hq⟩
  · rw [if_neg hk] at h ⊢
    rw [hq]
    exact h
theorem mm_HP.am {D : va_G} {B : Nat × Nat} {h : mm_H} {H : Heap} (hP : mm_HP D B h H) : mm_am B h.1 = H.size := by
  obtain ⟨h1, h2, -⟩ := hP
  unfold mm_am
  rw [if_neg (by omega)]
  omega
theorem mm_HP.up {D : va_G} {B : Nat × Nat} {h : mm_H} {H H1 : Heap} {a : Nat} {c0 c : mm_C} (hP : mm_HP D B h H) (ha : h.2.2 a = some c0) (hc : mm_cell D B a c H1) (z : H1.size = H.size) (o : ∀ q : Nat, q ≠ mm_am B a → H1[q]? = H[q]?) : mm_HP D B (mm_up h a c) H1 := by
  obtain ⟨h1, h2, h3⟩ := hP
  refine ⟨h1, by rw [z]; exact h2, fun b d hb => ?_⟩
  have hb' : (if b = a then some c else h.2.2 b) = some d := hb
  by_cases e : b = a
  · subst e
    rw [if_pos rfl] at hb'
    cases hb'
    exact ⟨(h3 _ _ ha).1, (h3 _ _ ha).2.1, hc⟩
  · rw [if_neg e] at hb'
    obtain ⟨g1, g2, g3⟩ := h3 _ _ hb'
    exact ⟨g1, g2, g3.kept (o _ (fun q => e (mm_am_inj g1 (h3 _ _ ha).1 q)))⟩
theorem mm_HP.new {D : va_G} {B : Nat × Nat} {h : mm_H} {H H1 : Heap} {c : mm_C} (hP : mm_HP D B h H) (hc : mm_cell D B h.1 c H1) (z : H1.size = H.size + 1) (o : ∀ q : Nat, q < H.size → H1[q]? = H[q]?) : mm_HP D B (mm_new h c) H1 := by
  have ham := hP.am
  obtain ⟨h1, h2, h3⟩ := hP
  refine ⟨by show 1 ≤ h.1 + 1; omega, by show H1.size + 1 = B.2 + (h.1 + 1); omega, fun b d hb => ?_⟩
  have hb' : (if b = h.1 then some c else h.2.2 b) = some d := hb
  show 0 < b ∧ b < h.1 + 1 ∧ _
  by_cases e : b = h.1
  · rw [if_pos e] at hb'
    cases hb'
    rw [e]
    exact ⟨h1, by omega, hc⟩
  · rw [if_neg e] at hb'
    obtain ⟨g1, g2, g3⟩ := h3 _ _ hb'
    refine ⟨g1, by omega, g3.kept (o _ ?_)⟩
    unfold mm_am
    rw [if_neg (by omega)]
    omega
/-! the tables hold what the machine asks -/
def mm_Ws : List Cond := lw_tbl.filter goodWord
def mm_nestL : List (String × Nat × MethodName × String) := [(RX3, 21, yX2_init, RX3), (RX3, 40, yX1_init, RX3)]
def mm_tys (D : va_G) : List (ClassId × FieldType) := [(D.1 5, .int), (D.1 6, .long), (D.1 7, .object RX0), (D.1 8, .object RX1), (D.1 9, .array .int)]
/-- what is known of the tables of int[][] -/
def mm_AOA (D : va_G) (U : State) : Prop := (∃ k : Class, U.vm.classes[D.1 9]? = some k ∧ k.kind = .array (D.1 5) (.array .int)) ∧ ∃ (k : Class) (cm : ClassId), U.vm.classes[D.1 5]? = some k ∧ k.kind = .array cm .int
/-- what the mini-machine takes as given of the machine's tables -/
def mm_WF (D : va_G) (U : State) : Prop := va_K D vwCl (mm_tys D) U ∧ va_AO RX0 U ∧ va_AO RX1 U ∧ mm_AOA D U ∧ ∀ e ∈ mm_nestL, va_Nw (.methodLinkNest e.1 e.2.1 e.2.2.1 e.2.2.2) U
theorem mm_AOA.moved {D : va_G} {u U : State} (hvm : u.vm.Alike U.vm) (h : mm_AOA D u) : mm_AOA D U := by
  obtain ⟨⟨k, h1, h2⟩, k5, cm, h3, h4⟩ := h
  obtain ⟨k', hk', he⟩ := hvm.2.2 _ _ h1
  obtain ⟨k5', hk5', he5⟩ := hvm.2.2 _ _ h3
  exact ⟨⟨k', hk', by rw [he]; exact h2⟩, k5', cm, hk5', by rw [he5]; exact h4⟩
theorem mm_WF.warm {D : va_G} {s U : State} (hW : s.WarmedH U.vm) (h : mm_WF D s) : mm_WF D U := by
  obtain ⟨h1, h2, h3, h4, h5⟩ := h
  exact ⟨va_K.moved hW.alike h1, h2.moved hW.alike, h3.moved hW.alike, h4.moved hW.alike, fun e he => va_Nw.warmM hW (h5 e he)⟩
theorem mm_WF.same {D : va_G} {s U : State} (hW : s.vm = U.vm) (h : mm_WF D s) : mm_WF D U := by
  obtain ⟨h1, h2, h3, h4, h5⟩ := h
  have hA : s.vm.Alike U.vm := by rw [hW]; exact Vm.Alike.refl _
  exact ⟨va_K.moved hA h1, h2.moved hA, h3.moved hA, h4.moved hA, fun e he => va_Nw.same rfl hW (h5 e he)⟩
theorem mm_cl_at (i : Nat) (h : i < 5) : vwCl[i]? = some (mm_cn i, mm_F i, mm_N i) := by
  match i, h with
  | 0, _ => rfl
  | 1, _ => rfl
  | 2, _ => rfl
  | 3, _ => rfl
  | 4, _ => rfl
  | n + 5, h => omega
set_option maxRecDepth 100000 in
theorem mm_fldL_ok : ∀ e ∈ mm_fldL, e.2.2.1 < 5 ∧ e.2.2.2 < mm_N e.2.2.1 ∧ Cond.fieldLink (mm_cn e.1) e.2.1 (mm_F e.2.2.1 e.2.2.2).1 (mm_F e.2.2.1 e.2.2.2).2.1 (mm_F e.2.2.1 e.2.2.2).2.2.1 ∈ mm_Ws ∧ (mm_F e.2.2.1 e.2.2.2).1 = mm_cn e.2.2.1 := by decide +kernel
set_option maxRecDepth 100000 in
theorem mm_lay_ok : ∀ i, i < 5 → ∀ w ∈ u_ws (mm_cn i) (mm_F i) (mm_N i), w ∈ mm_Ws := by decide +kernel
set_option maxRecDepth 100000 in
theorem mm_ty_ok : ∀ i, i < 5 → ∀ k, k < mm_N i → parseFieldDescriptor (mm_F i k).2.2.1 = some (mm_ty i k) := by decide +kernel
set_option maxRecDepth 100000 in
theorem mm_nm_ok : ∀ i, i < 5 → ∀ a, a < mm_N i → ∀ b, b < mm_N i → a ≠ b → (mm_F i a).2.1 ≠ (mm_F i b).2.1 := by decide +kernel
set_option maxRecDepth 100000 in
theorem mm_ldcL_ok : ∀ e ∈ mm_ldcL, Cond.constantLong (mm_cn e.1) e.2.1 e.2.2 ∈ mm_Ws := by decide +kernel
set_option maxRecDepth 100000 in
theorem mm_clsL_ok : ∀ e ∈ mm_clsL, (e.2.2 < 5 → Cond.classLink (mm_cn e.1) e.2.1 (mm_cn e.2.2) ∈ mm_Ws ∧ Cond.instantiable (mm_cn e.2.2) (mm_N e.2.2) ∈ mm_Ws ∧ Cond.initialized (mm_cn e.2.2) ∈ mm_Ws) ∧ (e.2.2 = 9 → Cond.classLink (mm_cn e.1) e.2.1 ("[" ++ (FieldType.array .int).toString) ∈ mm_Ws) := by decide +kernel
set_option maxRecDepth 100000 in
theorem mm_objL_ok : ∀ e ∈ mm_objL, Cond.methodLink (mm_cn e.1) e.2 Lib.objectInit ∈ mm_Ws := by decide +kernel
set_option maxRecDepth 100000 in
theorem mm_obj_ok : Cond.instanceMethod Lib.objectInit ∈ mm_Ws ∧ Cond.code Lib.objectInit ⟨#[0xb1]⟩ 1 none ∈ mm_Ws ∧ Cond.arrayClass .int ∈ mm_Ws ∧ Cond.arrayClass .long ∈ mm_Ws := by decide +kernel
set_option maxRecDepth 100000 in
theorem mm_maxL_ok : ∀ e ∈ mm_maxL, (e.2.2 = 0 → Cond.methodLink (mm_cn e.1) e.2.1 Lib.Math.max.name ∈ mm_Ws) ∧ (e.2.2 = 1 → Cond.methodLink (mm_cn e.1) e.2.1 Lib.MathLoose.max_long.x ∈ mm_Ws) := by decide +kernel
set_option maxRecDepth 100000 in
theorem mm_max_ok : Cond.initialized "java/lang/Math" ∈ mm_Ws ∧ Cond.static Lib.Math.max.name ∈ mm_Ws ∧ Cond.static Lib.MathLoose.max_long.x ∈ mm_Ws := by decide +kernel
set_option maxRecDepth 100000 in
theorem mm_max_code : Cond.code Lib.Math.max.name Lib.Math.max.code 2 (some .int) ∈ mm_Ws ∧ Cond.code Lib.MathLoose.max_long.x Lib.MathLoose.max_long.code 4 (some .long) ∈ mm_Ws := by decide +kernel
set_option maxRecDepth 100000 in
theorem mm_mthL_ok1 : ∀ e ∈ mm_mthL, e.2.2.2.2.1.cls = mm_cn e.2.2.2.1 ∧ plainName e.2.2.2.2.1.cls = true ∧ e.2.2.2.2.2.2.1 ≤ 20 := by decide +kernel
set_option maxRecDepth 100000 in
theorem mm_mthL_ok2 : ∀ e ∈ mm_mthL, e.2.2.2.2.1.cls ≠ "java/lang/invoke/MethodHandle" ∧ e.2.2.2.2.1.cls ≠ "java/lang/invoke/VarHandle" ∧ (parseMethodDescriptor e.2.2.2.2.1.desc).map (fun d => d.parameters.length) = some e.2.2.2.2.2.2.2.2 := by decide +kernel
set_option maxRecDepth 100000 in
theorem mm_mthL_ok3 : ∀ e ∈ mm_mthL, Cond.initialized e.2.2.2.2.1.cls ∈ mm_Ws ∧ (e.2.2.1 = 3 ∨ Cond.methodLink (mm_cn e.1) e.2.1 e.2.2.2.2.1 ∈ mm_Ws) := by decide +kernel
set_option maxRecDepth 100000 in
theorem mm_mthL_ok4 : ∀ e ∈ mm_mthL, e.2.2.1 = 3 → (mm_cn e.1, e.2.1, e.2.2.2.2.1, RX3) ∈ mm_nestL := by decide +kernel
set_option maxRecDepth 100000 in
theorem mm_mthL_ok5 : ∀ e ∈ mm_mthL, e.2.2.1 = 0 → Cond.static e.2.2.2.2.1 ∈ mm_Ws := by decide +kernel
set_option maxRecDepth 100000 in
theorem mm_mthL_ok6 : ∀ e ∈ mm_mthL, e.2.2.1 = 0 ∨ (e.2.2.2.1 < 5 ∧ Cond.instanceMethod e.2.2.2.2.1 ∈ mm_Ws) := by decide +kernel
set_option maxRecDepth 100000 in
theorem mm_mthL_ok7 : ∀ e ∈ mm_mthL, e.2.2.1 = 1 → Cond.selects (mm_cn e.2.2.2.1) e.2.2.2.2.1 e.2.2.2.2.1 ∈ mm_Ws := by decide +kernel
set_option maxRecDepth 100000 in
theorem mm_mthL_ok8 : ∀ e ∈ mm_mthL, (e.2.2.1 = 2 ∨ e.2.2.1 = 3) → e.2.2.2.2.1.name = "<init>" ∧ e.2.2.2.2.2.2.2.1.isNone = true := by decide +kernel
theorem mm_wsC {w : Cond} (h : w ∈ tables_1) (hg : goodWord w = true) : w ∈ mm_Ws := List.mem_filter.mpr ⟨List.mem_append_right _ h, hg⟩
end
section
set_option maxRecDepth 100000 in
theorem cwX0_init : Cond.code mX0_init.2.1 mX0_init.2.2.1 mX0_init.2.2.2.1 mX0_init.2.2.2.2.1 ∈ mm_Ws := mm_wsC (List.mem_of_getElem? (i := 66) rfl) rfl
set_option maxRecDepth 100000 in
theorem cwX1_init : Cond.code mX1_init.2.1 mX1_init.2.2.1 mX1_init.2.2.2.1 mX1_init.2.2.2.2.1 ∈ mm_Ws := mm_wsC (List.mem_of_getElem? (i := 46) rfl) rfl
set_option maxRecDepth 100000 in
theorem cwX1_hearerAt : Cond.code mX1_hearerAt.2.1 mX1_hearerAt.2.2.1 mX1_hearerAt.2.2.2.1 mX1_hearerAt.2.2.2.2.1 ∈ mm_Ws := mm_wsC (List.mem_of_getElem? (i := 299) rfl) rfl
set_option maxRecDepth 100000 in
theorem cwX1_placeOf : Cond.code mX1_placeOf.2.1 mX1_placeOf.2.2.1 mX1_placeOf.2.2.2.1 mX1_placeOf.2.2.2.2.1 ∈ mm_Ws := mm_wsC (List.mem_of_getElem? (i := 186) rfl) rfl
set_option maxRecDepth 100000 in
theorem cwX1_append : Cond.code mX1_append.2.1 mX1_append.2.2.1 mX1_append.2.2.2.1 mX1_append.2.2.2.2.1 ∈ mm_Ws := mm_wsC (List.mem_of_getElem? (i := 182) rfl) rfl
set_option maxRecDepth 100000 in
theorem cwX1_remove : Cond.code mX1_remove.2.1 mX1_remove.2.2.1 mX1_remove.2.2.2.1 mX1_remove.2.2.2.2.1 ∈ mm_Ws := mm_wsC (List.mem_of_getElem? (i := 194) rfl) rfl
set_option maxRecDepth 100000 in
theorem cwX1_copyLine : Cond.code mX1_copyLine.2.1 mX1_copyLine.2.2.1 mX1_copyLine.2.2.2.1 mX1_copyLine.2.2.2.2.1 ∈ mm_Ws := mm_wsC (List.mem_of_getElem? (i := 214) rfl) rfl
set_option maxRecDepth 100000 in
theorem cwX2_init : Cond.code mX2_init.2.1 mX2_init.2.2.1 mX2_init.2.2.2.1 mX2_init.2.2.2.2.1 ∈ mm_Ws := mm_wsC (List.mem_of_getElem? (i := 21) rfl) rfl
set_option maxRecDepth 100000 in
theorem cwX2_append : Cond.code mX2_append.2.1 mX2_append.2.2.1 mX2_append.2.2.2.1 mX2_append.2.2.2.2.1 ∈ mm_Ws := mm_wsC (List.mem_of_getElem? (i := 248) rfl) rfl
set_option maxRecDepth 100000 in
theorem cwX2_bellAt : Cond.code mX2_bellAt.2.1 mX2_bellAt.2.2.1 mX2_bellAt.2.2.2.1 mX2_bellAt.2.2.2.2.1 ∈ mm_Ws := mm_wsC (List.mem_of_getElem? (i := 307) rfl) rfl
set_option maxRecDepth 100000 in
theorem cwX2_firstBell : Cond.code mX2_firstBell.2.1 mX2_firstBell.2.2.1 mX2_firstBell.2.2.2.1 mX2_firstBell.2.2.2.2.1 ∈ mm_Ws := mm_wsC (List.mem_of_getElem? (i := 267) rfl) rfl
set_option maxRecDepth 100000 in
theorem cwX2_firstValue : Cond.code mX2_firstValue.2.1 mX2_firstValue.2.2.1 mX2_firstValue.2.2.2.1 mX2_firstValue.2.2.2.2.1 ∈ mm_Ws := mm_wsC (List.mem_of_getElem? (i := 271) rfl) rfl
set_option maxRecDepth 100000 in
theorem cwX2_dropFirst : Cond.code mX2_dropFirst.2.1 mX2_dropFirst.2.2.1 mX2_dropFirst.2.2.2.1 mX2_dropFirst.2.2.2.2.1 ∈ mm_Ws := mm_wsC (List.mem_of_getElem? (i := 275) rfl) rfl
set_option maxRecDepth 100000 in
theorem cwX3_init : Cond.code mX3_init.2.1 mX3_init.2.2.1 mX3_init.2.2.2.1 mX3_init.2.2.2.2.1 ∈ mm_Ws := mm_wsC (List.mem_of_getElem? (i := 11) rfl) rfl
set_option maxRecDepth 100000 in
theorem cwX3_tally : Cond.code mX3_tally.2.1 mX3_tally.2.2.1 mX3_tally.2.2.2.1 mX3_tally.2.2.2.2.1 ∈ mm_Ws := mm_wsC (List.mem_of_getElem? (i := 151) rfl) rfl
set_option maxRecDepth 100000 in
theorem cwX3_way : Cond.code mX3_way.2.1 mX3_way.2.2.1 mX3_way.2.2.2.1 mX3_way.2.2.2.2.1 ∈ mm_Ws := mm_wsC (List.mem_of_getElem? (i := 159) rfl) rfl
set_option maxRecDepth 100000 in
theorem cwX3_hearer : Cond.code mX3_hearer.2.1 mX3_hearer.2.2.1 mX3_hearer.2.2.2.1 mX3_hearer.2.2.2.2.1 ∈ mm_Ws := mm_wsC (List.mem_of_getElem? (i := 166) rfl) rfl
set_option maxRecDepth 100000 in
theorem cwX3_bind : Cond.code mX3_bind.2.1 mX3_bind.2.2.1 mX3_bind.2.2.2.1 mX3_bind.2.2.2.2.1 ∈ mm_Ws := mm_wsC (List.mem_of_getElem? (i := 178) rfl) rfl
set_option maxRecDepth 100000 in
theorem cwX3_leave : Cond.code mX3_leave.2.1 mX3_leave.2.2.1 mX3_leave.2.2.2.1 mX3_leave.2.2.2.2.1 ∈ mm_Ws := mm_wsC (List.mem_of_getElem? (i := 190) rfl) rfl
set_option maxRecDepth 100000 in
theorem cwX3_take : Cond.code mX3_take.2.1 mX3_take.2.2.1 mX3_take.2.2.2.1 mX3_take.2.2.2.2.1 ∈ mm_Ws := mm_wsC (List.mem_of_getElem? (i := 198) rfl) rfl
set_option maxRecDepth 100000 in
theorem cwX3_lend : Cond.code mX3_lend.2.1 mX3_lend.2.2.1 mX3_lend.2.2.2.1 mX3_lend.2.2.2.2.1 ∈ mm_Ws := mm_wsC (List.mem_of_getElem? (i := 202) rfl) rfl
set_option maxRecDepth 100000 in
theorem cwX3_ring : Cond.code mX3_ring.2.1 mX3_ring.2.2.1 mX3_ring.2.2.2.1 mX3_ring.2.2.2.2.1 ∈ mm_Ws := mm_wsC (List.mem_of_getElem? (i := 206) rfl) rfl
set_option maxRecDepth 100000 in
theorem cwX3_drain : Cond.code mX3_drain.2.1 mX3_drain.2.2.1 mX3_drain.2.2.2.1 mX3_drain.2.2.2.2.1 ∈ mm_Ws := mm_wsC (List.mem_of_getElem? (i := 283) rfl) rfl
set_option maxRecDepth 100000 in
theorem cwX3_act : Cond.code mX3_act.2.1 mX3_act.2.2.1 mX3_act.2.2.2.1 mX3_act.2.2.2.2.1 ∈ mm_Ws := mm_wsC (List.mem_of_getElem? (i := 287) rfl) rfl
set_option maxRecDepth 100000 in
theorem cwX3_get : Cond.code mX3_get.2.1 mX3_get.2.2.1 mX3_get.2.2.2.1 mX3_get.2.2.2.2.1 ∈ mm_Ws := mm_wsC (List.mem_of_getElem? (i := 291) rfl) rfl
set_option maxRecDepth 100000 in
theorem cwX3_line : Cond.code mX3_line.2.1 mX3_line.2.2.1 mX3_line.2.2.2.1 mX3_line.2.2.2.2.1 ∈ mm_Ws := mm_wsC (List.mem_of_getElem? (i := 295) rfl) rfl
set_option maxRecDepth 100000 in
theorem cwX3_queued : Cond.code mX3_queued.2.1 mX3_queued.2.2.1 mX3_queued.2.2.2.1 mX3_queued.2.2.2.2.1 ∈ mm_Ws := mm_wsC (List.mem_of_getElem? (i := 303) rfl) rfl
set_option maxRecDepth 100000 in
theorem cwX3_count : Cond.code mX3_count.2.1 mX3_count.2.2.1 mX3_count.2.2.2.1 mX3_count.2.2.2.2.1 ∈ mm_Ws := mm_wsC (List.mem_of_getElem? (i := 311) rfl) rfl
set_option maxRecDepth 100000 in
theorem cwX3_done : Cond.code mX3_done.2.1 mX3_done.2.2.1 mX3_done.2.2.2.1 mX3_done.2.2.2.2.1 ∈ mm_Ws := mm_wsC (List.mem_of_getElem? (i := 315) rfl) rfl
set_option maxRecDepth 100000 in
theorem cwX3_isTally : Cond.code mX3_isTally.2.1 mX3_isTally.2.2.1 mX3_isTally.2.2.2.1 mX3_isTally.2.2.2.2.1 ∈ mm_Ws := mm_wsC (List.mem_of_getElem? (i := 154) rfl) rfl
set_option maxRecDepth 100000 in
theorem cwX3_isBell : Cond.code mX3_isBell.2.1 mX3_isBell.2.2.1 mX3_isBell.2.2.2.1 mX3_isBell.2.2.2.2.1 ∈ mm_Ws := mm_wsC (List.mem_of_getElem? (i := 162) rfl) rfl
set_option maxRecDepth 100000 in
theorem cwX3_isHearer : Cond.code mX3_isHearer.2.1 mX3_isHearer.2.2.1 mX3_isHearer.2.2.2.1 mX3_isHearer.2.2.2.2.1 ∈ mm_Ws := mm_wsC (List.mem_of_getElem? (i := 174) rfl) rfl
set_option maxRecDepth 100000 in
theorem cwX3_canBeMade : Cond.code mX3_canBeMade.2.1 mX3_canBeMade.2.2.1 mX3_canBeMade.2.2.2.1 mX3_canBeMade.2.2.2.2.1 ∈ mm_Ws := mm_wsC (List.mem_of_getElem? (i := 170) rfl) rfl
set_option maxRecDepth 100000 in
theorem cwX3_makeHearer : Cond.code mX3_makeHearer.2.1 mX3_makeHearer.2.2.1 mX3_makeHearer.2.2.2.1 mX3_makeHearer.2.2.2.2.1 ∈ mm_Ws := mm_wsC (List.mem_of_getElem? (i := 62) rfl) rfl
set_option maxRecDepth 100000 in
theorem cwX3_answerOfCall : Cond.code mX3_answerOfCall.2.1 mX3_answerOfCall.2.2.1 mX3_answerOfCall.2.2.2.1 mX3_answerOfCall.2.2.2.2.1 ∈ mm_Ws := mm_wsC (List.mem_of_getElem? (i := 279) rfl) rfl
set_option maxRecDepth 100000 in
theorem cwX3_ringQueueAfter : Cond.code mX3_ringQueueAfter.2.1 mX3_ringQueueAfter.2.2.1 mX3_ringQueueAfter.2.2.2.1 mX3_ringQueueAfter.2.2.2.2.1 ∈ mm_Ws := mm_wsC (List.mem_of_getElem? (i := 263) rfl) rfl
set_option maxRecDepth 100000 in
theorem cwX3_ringBell : Cond.code mX3_ringBell.2.1 mX3_ringBell.2.2.1 mX3_ringBell.2.2.2.1 mX3_ringBell.2.2.2.2.1 ∈ mm_Ws := mm_wsC (List.mem_of_getElem? (i := 210) rfl) rfl
set_option maxRecDepth 100000 in
theorem cwX3_perform : Cond.code mX3_perform.2.1 mX3_perform.2.2.1 mX3_perform.2.2.2.1 mX3_perform.2.2.2.2.1 ∈ mm_Ws := mm_wsC (List.mem_of_getElem? (i := 219) rfl) rfl
set_option maxRecDepth 100000 in
theorem cwX3_performAlone : Cond.code mX3_performAlone.2.1 mX3_performAlone.2.2.1 mX3_performAlone.2.2.2.1 mX3_performAlone.2.2.2.2.1 ∈ mm_Ws := mm_wsC (List.mem_of_getElem? (i := 233) rfl) rfl
set_option maxRecDepth 100000 in
theorem cwX3_shareTally : Cond.code mX3_shareTally.2.1 mX3_shareTally.2.2.1 mX3_shareTally.2.2.2.1 mX3_shareTally.2.2.2.2.1 ∈ mm_Ws := mm_wsC (List.mem_of_getElem? (i := 240) rfl) rfl
set_option maxRecDepth 100000 in
theorem cwX3_addAtPlace : Cond.code mX3_addAtPlace.2.1 mX3_addAtPlace.2.2.1 mX3_addAtPlace.2.2.2.1 mX3_addAtPlace.2.2.2.2.1 ∈ mm_Ws := mm_wsC (List.mem_of_getElem? (i := 244) rfl) rfl
set_option maxRecDepth 100000 in
theorem cwX3_removeFromAllLines : Cond.code mX3_removeFromAllLines.2.1 mX3_removeFromAllLines.2.2.1 mX3_removeFromAllLines.2.2.2.1 mX3_removeFromAllLines.2.2.2.2.1 ∈ mm_Ws := mm_wsC (List.mem_of_getElem? (i := 252) rfl) rfl
set_option maxRecDepth 100000 in
theorem cwX3_metByBell : Cond.code mX3_metByBell.2.1 mX3_metByBell.2.2.1 mX3_metByBell.2.2.2.1 mX3_metByBell.2.2.2.2.1 ∈ mm_Ws := mm_wsC (List.mem_of_getElem? (i := 256) rfl) rfl
set_option maxRecDepth 100000 in
theorem cwX3_metByTry : Cond.code mX3_metByTry.2.1 mX3_metByTry.2.2.1 mX3_metByTry.2.2.2.1 mX3_metByTry.2.2.2.2.1 ∈ mm_Ws := mm_wsC (List.mem_of_getElem? (i := 226) rfl) rfl
set_option maxRecDepth 100000 in
theorem cwX3_canBeMet : Cond.code mX3_canBeMet.2.1 mX3_canBeMet.2.2.1 mX3_canBeMet.2.2.2.1 mX3_canBeMet.2.2.2.2.1 ∈ mm_Ws := mm_wsC (List.mem_of_getElem? (i := 229) rfl) rfl
set_option maxRecDepth 100000 in
theorem cwX3_wellIfStopped : Cond.code mX3_wellIfStopped.2.1 mX3_wellIfStopped.2.2.1 mX3_wellIfStopped.2.2.2.1 mX3_wellIfStopped.2.2.2.2.1 ∈ mm_Ws := mm_wsC (List.mem_of_getElem? (i := 259) rfl) rfl
set_option maxRecDepth 100000 in
theorem cwX4_init : Cond.code mX4_init.2.1 mX4_init.2.2.1 mX4_init.2.2.2.1 mX4_init.2.2.2.2.1 ∈ mm_Ws := mm_wsC (List.mem_of_getElem? (i := 320) rfl) rfl
set_option maxRecDepth 100000 in
theorem cwX4_in : Cond.code mX4_in.2.1 mX4_in.2.2.1 mX4_in.2.2.2.1 mX4_in.2.2.2.2.1 ∈ mm_Ws := mm_wsC (List.mem_of_getElem? (i := 330) rfl) rfl
set_option maxRecDepth 100000 in
theorem cwX4_isHearer : Cond.code mX4_isHearer.2.1 mX4_isHearer.2.2.1 mX4_isHearer.2.2.2.1 mX4_isHearer.2.2.2.2.1 ∈ mm_Ws := mm_wsC (List.mem_of_getElem? (i := 449) rfl) rfl
set_option maxRecDepth 100000 in
theorem cwX4_isBell : Cond.code mX4_isBell.2.1 mX4_isBell.2.2.1 mX4_isBell.2.2.2.1 mX4_isBell.2.2.2.2.1 ∈ mm_Ws := mm_wsC (List.mem_of_getElem? (i := 439) rfl) rfl
set_option maxRecDepth 100000 in
theorem cwX4_isTally : Cond.code mX4_isTally.2.1 mX4_isTally.2.2.1 mX4_isTally.2.2.2.1 mX4_isTally.2.2.2.2.1 ∈ mm_Ws := mm_wsC (List.mem_of_getElem? (i := 431) rfl) rfl
set_option maxRecDepth 100000 in
theorem cwX4_tally : Cond.code mX4_tally.2.1 mX4_tally.2.2.1 mX4_tally.2.2.2.1 mX4_tally.2.2.2.2.1 ∈ mm_Ws := mm_wsC (List.mem_of_getElem? (i := 428) rfl) rfl
set_option maxRecDepth 100000 in
theorem cwX4_way : Cond.code mX4_way.2.1 mX4_way.2.2.1 mX4_way.2.2.2.1 mX4_way.2.2.2.2.1 ∈ mm_Ws := mm_wsC (List.mem_of_getElem? (i := 436) rfl) rfl
set_option maxRecDepth 100000 in
theorem cwX4_make : Cond.code mX4_make.2.1 mX4_make.2.2.1 mX4_make.2.2.2.1 mX4_make.2.2.2.2.1 ∈ mm_Ws := mm_wsC (List.mem_of_getElem? (i := 325) rfl) rfl
set_option maxRecDepth 100000 in
theorem cwX4_hearer : Cond.code mX4_hearer.2.1 mX4_hearer.2.2.1 mX4_hearer.2.2.2.1 mX4_hearer.2.2.2.2.1 ∈ mm_Ws := mm_wsC (List.mem_of_getElem? (i := 444) rfl) rfl
set_option maxRecDepth 100000 in
theorem cwX4_placeOf : Cond.code mX4_placeOf.2.1 mX4_placeOf.2.2.1 mX4_placeOf.2.2.2.1 mX4_placeOf.2.2.2.2.1 ∈ mm_Ws := mm_wsC (List.mem_of_getElem? (i := 457) rfl) rfl
set_option maxRecDepth 100000 in
theorem cwX4_put : Cond.code mX4_put.2.1 mX4_put.2.2.1 mX4_put.2.2.2.1 mX4_put.2.2.2.2.1 ∈ mm_Ws := mm_wsC (List.mem_of_getElem? (i := 461) rfl) rfl
set_option maxRecDepth 100000 in
theorem cwX4_out : Cond.code mX4_out.2.1 mX4_out.2.2.1 mX4_out.2.2.2.1 mX4_out.2.2.2.2.1 ∈ mm_Ws := mm_wsC (List.mem_of_getElem? (i := 469) rfl) rfl
set_option maxRecDepth 100000 in
theorem cwX4_bind : Cond.code mX4_bind.2.1 mX4_bind.2.2.1 mX4_bind.2.2.2.1 mX4_bind.2.2.2.2.1 ∈ mm_Ws := mm_wsC (List.mem_of_getElem? (i := 453) rfl) rfl
set_option maxRecDepth 100000 in
theorem cwX4_leave : Cond.code mX4_leave.2.1 mX4_leave.2.2.1 mX4_leave.2.2.2.1 mX4_leave.2.2.2.2.1 ∈ mm_Ws := mm_wsC (List.mem_of_getElem? (i := 465) rfl) rfl
set_option maxRecDepth 100000 in
theorem cwX4_take : Cond.code mX4_take.2.1 mX4_take.2.2.1 mX4_take.2.2.2.1 mX4_take.2.2.2.2.1 ∈ mm_Ws := mm_wsC (List.mem_of_getElem? (i := 473) rfl) rfl
set_option maxRecDepth 100000 in
theorem cwX4_lend : Cond.code mX4_lend.2.1 mX4_lend.2.2.1 mX4_lend.2.2.2.1 mX4_lend.2.2.2.2.1 ∈ mm_Ws := mm_wsC (List.mem_of_getElem? (i := 477) rfl) rfl
set_option maxRecDepth 100000 in
theorem cwX4_heap : Cond.code mX4_heap.2.1 mX4_heap.2.2.1 mX4_heap.2.2.2.1 mX4_heap.2.2.2.2.1 ∈ mm_Ws := mm_wsC (List.mem_of_getElem? (i := 493) rfl) rfl
set_option maxRecDepth 100000 in
theorem cwX4_rings : Cond.code mX4_rings.2.1 mX4_rings.2.2.1 mX4_rings.2.2.2.1 mX4_rings.2.2.2.2.1 ∈ mm_Ws := mm_wsC (List.mem_of_getElem? (i := 489) rfl) rfl
set_option maxRecDepth 100000 in
theorem cwX4_begins : Cond.code mX4_begins.2.1 mX4_begins.2.2.1 mX4_begins.2.2.2.1 mX4_begins.2.2.2.2.1 ∈ mm_Ws := mm_wsC (List.mem_of_getElem? (i := 521) rfl) rfl
set_option maxRecDepth 100000 in
theorem cwX4_does : Cond.code mX4_does.2.1 mX4_does.2.2.1 mX4_does.2.2.2.1 mX4_does.2.2.2.2.1 ∈ mm_Ws := mm_wsC (List.mem_of_getElem? (i := 513) rfl) rfl
set_option maxRecDepth 100000 in
theorem cwX4_doesOthers : Cond.code mX4_doesOthers.2.1 mX4_doesOthers.2.2.1 mX4_doesOthers.2.2.2.1 mX4_doesOthers.2.2.2.2.1 ∈ mm_Ws := mm_wsC (List.mem_of_getElem? (i := 517) rfl) rfl
set_option maxRecDepth 100000 in
theorem cwX4_fails : Cond.code mX4_fails.2.1 mX4_fails.2.2.1 mX4_fails.2.2.2.1 mX4_fails.2.2.2.2.1 ∈ mm_Ws := mm_wsC (List.mem_of_getElem? (i := 505) rfl) rfl
set_option maxRecDepth 100000 in
theorem cwX4_stop : Cond.code mX4_stop.2.1 mX4_stop.2.2.1 mX4_stop.2.2.2.1 mX4_stop.2.2.2.2.1 ∈ mm_Ws := mm_wsC (List.mem_of_getElem? (i := 509) rfl) rfl
set_option maxRecDepth 100000 in
theorem cwX4_goesOn : Cond.code mX4_goesOn.2.1 mX4_goesOn.2.2.1 mX4_goesOn.2.2.2.1 mX4_goesOn.2.2.2.2.1 ∈ mm_Ws := mm_wsC (List.mem_of_getElem? (i := 525) rfl) rfl
set_option maxRecDepth 100000 in
theorem cwX4_works : Cond.code mX4_works.2.1 mX4_works.2.2.1 mX4_works.2.2.2.1 mX4_works.2.2.2.2.1 ∈ mm_Ws := mm_wsC (List.mem_of_getElem? (i := 501) rfl) rfl
set_option maxRecDepth 100000 in
theorem cwX4_ready : Cond.code mX4_ready.2.1 mX4_ready.2.2.1 mX4_ready.2.2.2.1 mX4_ready.2.2.2.2.1 ∈ mm_Ws := mm_wsC (List.mem_of_getElem? (i := 485) rfl) rfl
set_option maxRecDepth 100000 in
theorem cwX4_all : Cond.code mX4_all.2.1 mX4_all.2.2.1 mX4_all.2.2.2.1 mX4_all.2.2.2.2.1 ∈ mm_Ws := mm_wsC (List.mem_of_getElem? (i := 497) rfl) rfl
set_option maxRecDepth 100000 in
theorem cwX4_ring : Cond.code mX4_ring.2.1 mX4_ring.2.2.1 mX4_ring.2.2.2.1 mX4_ring.2.2.2.2.1 ∈ mm_Ws := mm_wsC (List.mem_of_getElem? (i := 481) rfl) rfl
set_option maxRecDepth 100000 in
theorem cwX4_drain : Cond.code mX4_drain.2.1 mX4_drain.2.2.1 mX4_drain.2.2.2.1 mX4_drain.2.2.2.2.1 ∈ mm_Ws := mm_wsC (List.mem_of_getElem? (i := 529) rfl) rfl
set_option maxRecDepth 100000 in
theorem cwX4_act : Cond.code mX4_act.2.1 mX4_act.2.2.1 mX4_act.2.2.2.1 mX4_act.2.2.2.2.1 ∈ mm_Ws := mm_wsC (List.mem_of_getElem? (i := 533) rfl) rfl
set_option maxRecDepth 100000 in
theorem cwX4_get : Cond.code mX4_get.2.1 mX4_get.2.2.1 mX4_get.2.2.2.1 mX4_get.2.2.2.2.1 ∈ mm_Ws := mm_wsC (List.mem_of_getElem? (i := 537) rfl) rfl
set_option maxRecDepth 100000 in
theorem cwX4_line : Cond.code mX4_line.2.1 mX4_line.2.2.1 mX4_line.2.2.2.1 mX4_line.2.2.2.2.1 ∈ mm_Ws := mm_wsC (List.mem_of_getElem? (i := 541) rfl) rfl
set_option maxRecDepth 100000 in
theorem cwX4_queued : Cond.code mX4_queued.2.1 mX4_queued.2.2.1 mX4_queued.2.2.2.1 mX4_queued.2.2.2.2.1 ∈ mm_Ws := mm_wsC (List.mem_of_getElem? (i := 545) rfl) rfl
set_option maxRecDepth 100000 in
theorem cwX4_count : Cond.code mX4_count.2.1 mX4_count.2.2.1 mX4_count.2.2.2.1 mX4_count.2.2.2.2.1 ∈ mm_Ws := mm_wsC (List.mem_of_getElem? (i := 549) rfl) rfl
set_option maxRecDepth 100000 in
theorem cwX4_done : Cond.code mX4_done.2.1 mX4_done.2.2.1 mX4_done.2.2.2.1 mX4_done.2.2.2.2.1 ∈ mm_Ws := mm_wsC (List.mem_of_getElem? (i := 554) rfl) rfl
set_option maxRecDepth 100000 in
theorem mm_mthL_code : ∀ e ∈ mm_mthL, Cond.code e.2.2.2.2.1 e.2.2.2.2.2.1 e.2.2.2.2.2.2.1 e.2.2.2.2.2.2.2.1 ∈ mm_Ws := List.forall_mem_cons.mpr ⟨cwX3_init, List.forall_mem_cons.mpr ⟨cwX3_makeHearer, List.forall_mem_cons.mpr ⟨cwX0_init, List.forall_mem_cons.mpr ⟨cwX3_tally, List.forall_mem_cons.mpr ⟨cwX3_isTally, List.forall_mem_cons.mpr ⟨cwX3_way, List.forall_mem_cons.mpr ⟨cwX3_isBell, List.forall_mem_cons.mpr ⟨cwX3_hearer, List.forall_mem_cons.mpr ⟨cwX3_canBeMade, List.forall_mem_cons.mpr ⟨cwX3_isHearer, List.forall_mem_cons.mpr ⟨cwX3_bind, List.forall_mem_cons.mpr ⟨cwX1_append, List.forall_mem_cons.mpr ⟨cwX1_placeOf, List.forall_mem_cons.mpr ⟨cwX3_leave, List.forall_mem_cons.mpr ⟨cwX1_remove, List.forall_mem_cons.mpr ⟨cwX3_take, List.forall_mem_cons.mpr ⟨cwX3_lend, List.forall_mem_cons.mpr ⟨cwX3_ring, List.forall_mem_cons.mpr ⟨cwX3_ringBell, List.forall_mem_cons.mpr ⟨cwX1_copyLine, List.forall_mem_cons.mpr ⟨cwX1_placeOf, List.forall_mem_cons.mpr ⟨cwX3_perform, List.forall_mem_cons.mpr ⟨cwX3_metByTry, List.forall_mem_cons.mpr ⟨cwX3_canBeMet, List.forall_mem_cons.mpr ⟨cwX3_performAlone, List.forall_mem_cons.mpr ⟨cwX3_shareTally, List.forall_mem_cons.mpr ⟨cwX3_addAtPlace, List.forall_mem_cons.mpr ⟨cwX2_append, List.forall_mem_cons.mpr ⟨cwX3_removeFromAllLines, List.forall_mem_cons.mpr ⟨cwX3_metByBell, List.forall_mem_cons.mpr ⟨cwX3_wellIfStopped, List.forall_mem_cons.mpr ⟨cwX3_ringQueueAfter, List.forall_mem_cons.mpr ⟨cwX2_firstBell, List.forall_mem_cons.mpr ⟨cwX2_firstValue, List.forall_mem_cons.mpr ⟨cwX2_dropFirst, List.forall_mem_cons.mpr ⟨cwX3_answerOfCall, List.forall_mem_cons.mpr ⟨cwX3_drain, List.forall_mem_cons.mpr ⟨cwX3_act, List.forall_mem_cons.mpr ⟨cwX3_get, List.forall_mem_cons.mpr ⟨cwX3_line, List.forall_mem_cons.mpr ⟨cwX1_hearerAt, List.forall_mem_cons.mpr ⟨cwX3_queued, List.forall_mem_cons.mpr ⟨cwX2_bellAt, List.forall_mem_cons.mpr ⟨cwX3_count, List.forall_mem_cons.mpr ⟨cwX3_done, List.forall_mem_cons.mpr ⟨cwX4_init, List.forall_mem_cons.mpr ⟨cwX4_make, List.forall_mem_cons.mpr ⟨cwX4_in, List.forall_mem_cons.mpr ⟨cwX4_tally, List.forall_mem_cons.mpr ⟨cwX4_isTally, List.forall_mem_cons.mpr ⟨cwX4_way, List.forall_mem_cons.mpr ⟨cwX4_isBell, List.forall_mem_cons.mpr ⟨cwX4_hearer, List.forall_mem_cons.mpr ⟨cwX4_isHearer, List.forall_mem_cons.mpr ⟨cwX4_bind, List.forall_mem_cons.mpr ⟨cwX4_placeOf, List.forall_mem_cons.mpr ⟨cwX4_put, List.forall_mem_cons.mpr ⟨cwX4_leave, List.forall_mem_cons.mpr ⟨cwX4_out, List.forall_mem_cons.mpr ⟨cwX4_take, List.forall_mem_cons.mpr ⟨cwX4_lend, List.forall_mem_cons.mpr ⟨cwX4_ring, List.forall_mem_cons.mpr ⟨cwX4_ready, List.forall_mem_cons.mpr ⟨cwX4_rings, List.forall_mem_cons.mpr ⟨cwX4_heap, List.forall_mem_cons.mpr ⟨cwX4_all, List.forall_mem_cons.mpr ⟨cwX4_works, List.forall_mem_cons.mpr ⟨cwX4_fails, List.forall_mem_cons.mpr ⟨cwX4_stop, List.forall_mem_cons.mpr ⟨cwX4_does, List.forall_mem_cons.mpr ⟨cwX4_doesOthers, List.forall_mem_cons.mpr ⟨cwX4_begins, List.forall_mem_cons.mpr ⟨cwX4_goesOn, List.forall_mem_cons.mpr ⟨cwX4_drain, List.forall_mem_cons.mpr ⟨cwX4_act, List.forall_mem_cons.mpr ⟨cwX4_get, List.forall_mem_cons.mpr ⟨cwX4_line, List.forall_mem_cons.mpr ⟨cwX4_queued, List.forall_mem_cons.mpr ⟨cwX4_count, List.forall_mem_cons.mpr ⟨cwX4_done, List.forall_mem_cons.mpr ⟨cwX2_init, List.forall_mem_cons.mpr ⟨cwX1_init, fun _ h => absurd h List.not_mem_nil⟩⟩⟩⟩⟩⟩⟩⟩⟩⟩⟩⟩⟩⟩⟩⟩⟩⟩⟩⟩⟩⟩⟩⟩⟩⟩⟩⟩⟩⟩⟩⟩⟩⟩⟩⟩⟩⟩⟩⟩⟩⟩⟩⟩⟩⟩⟩⟩⟩⟩⟩⟩⟩⟩⟩⟩⟩⟩⟩⟩⟩⟩⟩⟩⟩⟩⟩⟩⟩⟩⟩⟩⟩⟩⟩⟩⟩⟩⟩⟩⟩⟩
end
section
/-! EACH INSTRUCTION OF THE MINI-MACHINE IS ONE OF THE MACHINE: mm_G: from here on the machine comes to its end, in every heap that is as the mini-machine has it -/
def mm_Ctx (p : Program) (s : State) (m : MethodId) (args : Array Value) (meth : Method) (c : Code) (D : va_G) (B : Nat × Nat) (M : mm_T) : Prop :=
  p.tables.exec = Jvm.exec ∧ c.code = M.2.2.1 ∧ c.maxLocals = M.2.2.2.1 ∧ s.vm.findClass (mm_cn M.1) = some m.cls ∧ (∀ w ∈ mm_Ws, w.before args s = true) ∧ mm_WF D s ∧ (M.2.1.name = "<init>" → meth.name = "<init>") ∧ B.1 < B.2 ∧ B.2 ≤ s.heap.size
def mm_G (p : Program) (l : Launch) (e : Env) (R : Room) (s : State) (m : MethodId) (args : Array Value) (below : List Frame) (meth : Method) (c : Code) (Q : State → Prop) (D : va_G) (B : Nat × Nat) (M : mm_T) (pc : Nat) (ls : mm_L) (st : List Value) (h : mm_H) (cells slots : Nat) : Prop :=
  ∀ (H : Heap) (locs : List Loc) (lsA : Array Slot), mm_HP D B h H → va_S (fun q => B.2 ≤ q) s.heap H locs → lv_has lsA M.2.2.2.1 (mm_mp B ls) → W p l e R s m args below meth c H locs cells slots Q (F0 m pc lsA (st.map (mm_sh B)))
section MG
variable {p : Program} {l : Launch} {e : Env} {R : Room} {s : State} {m : MethodId} {args : Array Value} {below : List Frame} {meth : Method} {c : Code} {Q : State → Prop} {D : va_G} {B : Nat × Nat} {M : mm_T}
variable {pc cells slots : Nat} {ls : mm_L} {st r : List Value} {h : mm_H}
theorem mg_iconst (C : mm_Ctx p s m args meth c D B M) {n : Int} (hd : decode M.2.2.1 pc = .ok (.iconst n, 1)) (k : mm_G p l e R s m args below meth c Q D B M (pc + 1) ls (.int (Int32.ofInt n) :: st) h cells slots) : mm_G p l e R s m args below meth c Q D B M pc ls st h cells slots := fun H locs lsA hP hS hl => lv_iconst C.1 C.2.1 hd rfl (k H locs lsA hP hS hl)
theorem mg_bipush (C : mm_Ctx p s m args meth c D B M) {n : Int} (hd : decode M.2.2.1 pc = .ok (.bipush n, 2)) (k : mm_G p l e R s m args below meth c Q D B M (pc + 2) ls (.int (Int8.ofInt n).toInt32 :: st) h cells slots) : mm_G p l e R s m args below meth c Q D B M pc ls st h cells slots := fun H locs lsA hP hS hl => lv_bipush C.1 C.2.1 hd rfl (k H locs lsA hP hS hl)
theorem mg_sipush (C : mm_Ctx p s m args meth c D B M) {n : Int} (hd : decode M.2.2.1 pc = .ok (.sipush n, 3)) (k : mm_G p l e R s m args below meth c Q D B M (pc + 3) ls (.int (Int16.ofInt n).toInt32 :: st) h cells slots) : mm_G p l e R s m args below meth c Q D B M pc ls st h cells slots := fun H locs lsA hP hS hl => lv_sipush C.1 C.2.1 hd rfl (k H locs lsA hP hS hl)
theorem mg_lconst (C : mm_Ctx p s m args meth c D B M) {n : Fin 2} (hd : decode M.2.2.1 pc = .ok (.lconst n, 1)) (k : mm_G p l e R s m args below meth c Q D B M (pc + 1) ls (.long (Int64.ofNat (n : Nat)) :: st) h cells slots) : mm_G p l e R s m args below meth c Q D B M pc ls st h cells slots := fun H locs lsA hP hS hl => lv_lconst C.1 C.2.1 hd rfl (k H locs lsA hP hS hl)
theorem mg_null (C : mm_Ctx p s m args meth c D B M) (hd : decode M.2.2.1 pc = .ok (.aconst_null, 1)) (k : mm_G p l e R s m args below meth c Q D B M (pc + 1) ls (.null :: st) h cells slots) : mm_G p l e R s m args below meth c Q D B M pc ls st h cells slots := fun H locs lsA hP hS hl => lv_null C.1 C.2.1 hd (k H locs lsA hP hS hl)
theorem mg_ldc (C : mm_Ctx p s m args meth c D B M) {i : Nat} {x : Int64} (hd : decode M.2.2.1 pc = .ok (.ldc2_w i, 3)) (hx : mm_ldc M.1 i = some x) (k : mm_G p l e R s m args below meth c Q D B M (pc + 3) ls (.long x :: st) h cells slots) : mm_G p l e R s m args below meth c Q D B M pc ls st h cells slots := fun H locs lsA hP hS hl => by
  obtain ⟨q, hq, hv⟩ := Option.map_eq_some_iff.mp hx
  have h1 := List.find?_some hq
  have h2 := mm_ldcL_ok q (List.mem_of_find?_eq_some hq)
  simp only [Bool.and_eq_true, beq_iff_eq] at h1
  rw [h1.1, h1.2, hv] at h2
  exact lv_ldc2 C.1 C.2.1 C.2.2.2.1 (C.2.2.2.2.1 _ h2) hd (k H locs lsA hP hS hl)
theorem mg_iload_n (C : mm_Ctx p s m args meth c D B M) {i : Fin 4} {x : Int32} (hd : decode M.2.2.1 pc = .ok (.iload_n i, 1)) (hx : mm_lk ls i = some (.int x)) (k : mm_G p l e R s m args below meth c Q D B M (pc + 1) ls (.int x :: st) h cells slots) : mm_G p l e R s m args below meth c Q D B M pc ls st h cells slots := fun H locs lsA hP hS hl => lv_iload_n C.1 C.2.1 hd rfl (mm_lk_has hl hx) (k H locs lsA hP hS hl)
theorem mg_iload (C : mm_Ctx p s m args meth c D B M) {i : Nat} {x : Int32} (hd : decode M.2.2.1 pc = .ok (.iload i, 2)) (hx : mm_lk ls i = some (.int x)) (k : mm_G p l e R s m args below meth c Q D B M (pc + 2) ls (.int x :: st) h cells slots) : mm_G p l e R s m args below meth c Q D B M pc ls st h cells slots := fun H locs lsA hP hS hl => lv_iload C.1 C.2.1 hd (mm_lk_has hl hx) (k H locs lsA hP hS hl)
theorem mg_lload_n (C : mm_Ctx p s m args meth c D B M) {i : Fin 4} {x : Int64} (hd : decode M.2.2.1 pc = .ok (.lload_n i, 1)) (hx : mm_lk ls i = some (.long x)) (k : mm_G p l e R s m args below meth c Q D B M (pc + 1) ls (.long x :: st) h cells slots) : mm_G p l e R s m args below meth c Q D B M pc ls st h cells slots := fun H locs lsA hP hS hl => lv_lload_n C.1 C.2.1 hd rfl (mm_lk_has hl hx) (k H locs lsA hP hS hl)
theorem mg_lload (C : mm_Ctx p s m args meth c D B M) {i : Nat} {x : Int64} (hd : decode M.2.2.1 pc = .ok (.lload i, 2)) (hx : mm_lk ls i = some (.long x)) (k : mm_G p l e R s m args below meth c Q D B M (pc + 2) ls (.long x :: st) h cells slots) : mm_G p l e R s m args below meth c Q D B M pc ls st h cells slots := fun H locs lsA hP hS hl => lv_lload C.1 C.2.1 hd (mm_lk_has hl hx) (k H locs lsA hP hS hl)
theorem mg_aload_n (C : mm_Ctx p s m args meth c D B M) {i : Fin 4} {x : Nat} (hd : decode M.2.2.1 pc = .ok (.aload_n i, 1)) (hx : mm_lk ls i = some (.ref x)) (k : mm_G p l e R s m args below meth c Q D B M (pc + 1) ls (.ref x :: st) h cells slots) : mm_G p l e R s m args below meth c Q D B M pc ls st h cells slots := fun H locs lsA hP hS hl => lv_aload_n C.1 C.2.1 hd rfl (mm_lk_has hl hx) (k H locs lsA hP hS hl)
theorem mg_aload (C : mm_Ctx p s m args meth c D B M) {i : Nat} {x : Nat} (hd : decode M.2.2.1 pc = .ok (.aload i, 2)) (hx : mm_lk ls i = some (.ref x)) (k : mm_G p l e R s m args below meth c Q D B M (pc + 2) ls (.ref x :: st) h cells slots) : mm_G p l e R s m args below meth c Q D B M pc ls st h cells slots := fun H locs lsA hP hS hl => lv_aload C.1 C.2.1 hd (mm_lk_has hl hx) (k H locs lsA hP hS hl)
theorem mg_aload_nN (C : mm_Ctx p s m args meth c D B M) {i : Fin 4} (hd : decode M.2.2.1 pc = .ok (.aload_n i, 1)) (hx : mm_lk ls i = some .null) (k : mm_G p l e R s m args below meth c Q D B M (pc + 1) ls (.null :: st) h cells slots) : mm_G p l e R s m args below meth c Q D B M pc ls st h cells slots := fun H locs lsA hP hS hl => lv_aload_nN C.1 C.2.1 hd rfl (mm_lk_has hl hx) (k H locs lsA hP hS hl)
theorem mg_aloadN (C : mm_Ctx p s m args meth c D B M) {i : Nat} (hd : decode M.2.2.1 pc = .ok (.aload i, 2)) (hx : mm_lk ls i = some .null) (k : mm_G p l e R s m args below meth c Q D B M (pc + 2) ls (.null :: st) h cells slots) : mm_G p l e R s m args below meth c Q D B M pc ls st h cells slots := fun H locs lsA hP hS hl => lv_aloadN C.1 C.2.1 hd (mm_lk_has hl hx) (k H locs lsA hP hS hl)
theorem mg_istore_n (C : mm_Ctx p s m args meth c D B M) {i : Fin 4} {x : Int32} (hd : decode M.2.2.1 pc = .ok (.istore_n i, 1)) (hi : (i : Nat) < M.2.2.2.1) (k : mm_G p l e R s m args below meth c Q D B M (pc + 1) (mm_st1 ls i (.int x)) r h cells slots) : mm_G p l e R s m args below meth c Q D B M pc ls (.int x :: r) h cells slots := fun H locs lsA hP hS hl => lv_istore_n C.1 C.2.1 hd rfl hl hi (mm_mp_st1 B ls i (.int x)) (fun ls' hl' => k H locs ls' hP hS hl')
theorem mg_istore (C : mm_Ctx p s m args meth c D B M) {i : Nat} {x : Int32} (hd : decode M.2.2.1 pc = .ok (.istore i, 2)) (hi : i < M.2.2.2.1) (k : mm_G p l e R s m args below meth c Q D B M (pc + 2) (mm_st1 ls i (.int x)) r h cells slots) : mm_G p l e R s m args below meth c Q D B M pc ls (.int x :: r) h cells slots := fun H locs lsA hP hS hl => lv_istore C.1 C.2.1 hd hl hi (mm_mp_st1 B ls i (.int x)) (fun ls' hl' => k H locs ls' hP hS hl')
theorem mg_lstore_n (C : mm_Ctx p s m args meth c D B M) {i : Fin 4} {x : Int64} (hd : decode M.2.2.1 pc = .ok (.lstore_n i, 1)) (hi : (i : Nat) + 1 < M.2.2.2.1) (k : mm_G p l e R s m args below meth c Q D B M (pc + 1) (mm_st2 ls i (.long x)) r h cells slots) : mm_G p l e R s m args below meth c Q D B M pc ls (.long x :: r) h cells slots := fun H locs lsA hP hS hl => lv_lstore_n C.1 C.2.1 hd rfl hl hi (mm_mp_st2 B ls i (.long x)) (fun ls' hl' => k H locs ls' hP hS hl')
theorem mg_lstore (C : mm_Ctx p s m args meth c D B M) {i : Nat} {x : Int64} (hd : decode M.2.2.1 pc = .ok (.lstore i, 2)) (hi : i + 1 < M.2.2.2.1) (k : mm_G p l e R s m args below meth c Q D B M (pc + 2) (mm_st2 ls i (.long x)) r h cells slots) : mm_G p l e R s m args below meth c Q D B M pc ls (.long x :: r) h cells slots := fun H locs lsA hP hS hl => lv_lstore C.1 C.2.1 hd hl hi (mm_mp_st2 B ls i (.long x)) (fun ls' hl' => k H locs ls' hP hS hl')
theorem mg_astore_n (C : mm_Ctx p s m args meth c D B M) {i : Fin 4} {x : Nat} (hd : decode M.2.2.1 pc = .ok (.astore_n i, 1)) (hi : (i : Nat) < M.2.2.2.1) (k : mm_G p l e R s m args below meth c Q D B M (pc + 1) (mm_st1 ls i (.ref x)) r h cells slots) : mm_G p l e R s m args below meth c Q D B M pc ls (.ref x :: r) h cells slots := fun H locs lsA hP hS hl => lv_astore_n C.1 C.2.1 hd rfl hl hi (mm_mp_st1 B ls i (.ref x)) (fun ls' hl' => k H locs ls' hP hS hl')
theorem mg_astore (C : mm_Ctx p s m args meth c D B M) {i : Nat} {x : Nat} (hd : decode M.2.2.1 pc = .ok (.astore i, 2)) (hi : i < M.2.2.2.1) (k : mm_G p l e R s m args below meth c Q D B M (pc + 2) (mm_st1 ls i (.ref x)) r h cells slots) : mm_G p l e R s m args below meth c Q D B M pc ls (.ref x :: r) h cells slots := fun H locs lsA hP hS hl => lv_astore C.1 C.2.1 hd hl hi (mm_mp_st1 B ls i (.ref x)) (fun ls' hl' => k H locs ls' hP hS hl')
theorem mg_astore_nN (C : mm_Ctx p s m args meth c D B M) {i : Fin 4} (hd : decode M.2.2.1 pc = .ok (.astore_n i, 1)) (hi : (i : Nat) < M.2.2.2.1) (k : mm_G p l e R s m args below meth c Q D B M (pc + 1) (mm_st1 ls i .null) r h cells slots) : mm_G p l e R s m args below meth c Q D B M pc ls (.null :: r) h cells slots := fun H locs lsA hP hS hl => lv_astore_nN C.1 C.2.1 hd rfl hl hi (mm_mp_st1 B ls i .null) (fun ls' hl' => k H locs ls' hP hS hl')
theorem mg_astoreN (C : mm_Ctx p s m args meth c D B M) {i : Nat} (hd : decode M.2.2.1 pc = .ok (.astore i, 2)) (hi : i < M.2.2.2.1) (k : mm_G p l e R s m args below meth c Q D B M (pc + 2) (mm_st1 ls i .null) r h cells slots) : mm_G p l e R s m args below meth c Q D B M pc ls (.null :: r) h cells slots := fun H locs lsA hP hS hl => lv_astoreN C.1 C.2.1 hd hl hi (mm_mp_st1 B ls i .null) (fun ls' hl' => k H locs ls' hP hS hl')
theorem mg_iinc (C : mm_Ctx p s m args meth c D B M) {i : Nat} {n : Int} {x : Int32} (hd : decode M.2.2.1 pc = .ok (.iinc i n, 3)) (hx : mm_lk ls i = some (.int x)) (hi : i < M.2.2.2.1) (k : mm_G p l e R s m args below meth c Q D B M (pc + 3) (mm_st1 ls i (.int (x + Int32.ofInt n))) st h cells slots) : mm_G p l e R s m args below meth c Q D B M pc ls st h cells slots := fun H locs lsA hP hS hl => by
  obtain ⟨q, hq, hv⟩ := Option.map_eq_some_iff.mp hx
  have h1 : q.1 = i := by simpa using List.find?_some hq
  have h2 : ((i, Value.int x) : Nat × Value) ∈ mm_mp B ls := List.mem_map.mpr ⟨q, List.mem_of_find?_eq_some hq, by rw [h1, hv]; rfl⟩
  obtain ⟨j, hj⟩ := List.getElem?_of_mem h2
  exact lv_iinc C.1 C.2.1 hd hl hj rfl hi (mm_mp_st1 B ls i (.int (x + Int32.ofInt n))) (fun ls' hl' => k H locs ls' hP hS hl')
theorem mg_iadd (C : mm_Ctx p s m args meth c D B M) {x y : Int32} (hd : decode M.2.2.1 pc = .ok (.iadd, 1)) (k : mm_G p l e R s m args below meth c Q D B M (pc + 1) ls (.int (x + y) :: r) h cells slots) : mm_G p l e R s m args below meth c Q D B M pc ls (.int y :: .int x :: r) h cells slots := fun H locs lsA hP hS hl => lv_iadd C.1 C.2.1 hd (k H locs lsA hP hS hl)
theorem mg_isub (C : mm_Ctx p s m args meth c D B M) {x y : Int32} (hd : decode M.2.2.1 pc = .ok (.isub, 1)) (k : mm_G p l e R s m args below meth c Q D B M (pc + 1) ls (.int (x - y) :: r) h cells slots) : mm_G p l e R s m args below meth c Q D B M pc ls (.int y :: .int x :: r) h cells slots := fun H locs lsA hP hS hl => lv_isub C.1 C.2.1 hd (k H locs lsA hP hS hl)
theorem mg_imul (C : mm_Ctx p s m args meth c D B M) {x y : Int32} (hd : decode M.2.2.1 pc = .ok (.imul, 1)) (k : mm_G p l e R s m args below meth c Q D B M (pc + 1) ls (.int (x * y) :: r) h cells slots) : mm_G p l e R s m args below meth c Q D B M pc ls (.int y :: .int x :: r) h cells slots := fun H locs lsA hP hS hl => lv_imul C.1 C.2.1 hd (k H locs lsA hP hS hl)
theorem mg_iand (C : mm_Ctx p s m args meth c D B M) {x y : Int32} (hd : decode M.2.2.1 pc = .ok (.iand, 1)) (k : mm_G p l e R s m args below meth c Q D B M (pc + 1) ls (.int (x &&& y) :: r) h cells slots) : mm_G p l e R s m args below meth c Q D B M pc ls (.int y :: .int x :: r) h cells slots := fun H locs lsA hP hS hl => lv_iand C.1 C.2.1 hd (k H locs lsA hP hS hl)
theorem mg_irem (C : mm_Ctx p s m args meth c D B M) {x y : Int32} (hd : decode M.2.2.1 pc = .ok (.irem, 1)) (hy : ¬ y = 0) (k : mm_G p l e R s m args below meth c Q D B M (pc + 1) ls (.int (x - x / y * y) :: r) h cells slots) : mm_G p l e R s m args below meth c Q D B M pc ls (.int y :: .int x :: r) h cells slots := fun H locs lsA hP hS hl => lv_irem C.1 C.2.1 hd hy (k H locs lsA hP hS hl)
theorem mg_ladd (C : mm_Ctx p s m args meth c D B M) {x y : Int64} (hd : decode M.2.2.1 pc = .ok (.ladd, 1)) (k : mm_G p l e R s m args below meth c Q D B M (pc + 1) ls (.long (x + y) :: r) h cells slots) : mm_G p l e R s m args below meth c Q D B M pc ls (.long y :: .long x :: r) h cells slots := fun H locs lsA hP hS hl => lv_ladd C.1 C.2.1 hd (k H locs lsA hP hS hl)
theorem mg_land (C : mm_Ctx p s m args meth c D B M) {x y : Int64} (hd : decode M.2.2.1 pc = .ok (.land, 1)) (k : mm_G p l e R s m args below meth c Q D B M (pc + 1) ls (.long (x &&& y) :: r) h cells slots) : mm_G p l e R s m args below meth c Q D B M pc ls (.long y :: .long x :: r) h cells slots := fun H locs lsA hP hS hl => lv_land C.1 C.2.1 hd (k H locs lsA hP hS hl)
theorem mg_lor (C : mm_Ctx p s m args meth c D B M) {x y : Int64} (hd : decode M.2.2.1 pc = .ok (.lor, 1)) (k : mm_G p l e R s m args below meth c Q D B M (pc + 1) ls (.long (x ||| y) :: r) h cells slots) : mm_G p l e R s m args below meth c Q D B M pc ls (.long y :: .long x :: r) h cells slots := fun H locs lsA hP hS hl => lv_lor C.1 C.2.1 hd (k H locs lsA hP hS hl)
theorem mg_ldiv (C : mm_Ctx p s m args meth c D B M) {x y : Int64} (hd : decode M.2.2.1 pc = .ok (.ldiv, 1)) (hy : ¬ y = 0) (k : mm_G p l e R s m args below meth c Q D B M (pc + 1) ls (.long (x / y) :: r) h cells slots) : mm_G p l e R s m args below meth c Q D B M pc ls (.long y :: .long x :: r) h cells slots := fun H locs lsA hP hS hl => lv_ldiv C.1 C.2.1 hd hy (k H locs lsA hP hS hl)
theorem mg_lshl (C : mm_Ctx p s m args meth c D B M) {x : Int64} {y : Int32} (hd : decode M.2.2.1 pc = .ok (.lshl, 1)) (k : mm_G p l e R s m args below meth c Q D B M (pc + 1) ls (.long (x <<< (y.toInt64 &&& 63)) :: r) h cells slots) : mm_G p l e R s m args below meth c Q D B M pc ls (.int y :: .long x :: r) h cells slots := fun H locs lsA hP hS hl => lv_lshl C.1 C.2.1 hd rfl (k H locs lsA hP hS hl)
theorem mg_lcmp (C : mm_Ctx p s m args meth c D B M) {x y : Int64} (hd : decode M.2.2.1 pc = .ok (.lcmp, 1)) (k : mm_G p l e R s m args below meth c Q D B M (pc + 1) ls (.int (lg_cmp x y) :: r) h cells slots) : mm_G p l e R s m args below meth c Q D B M pc ls (.long y :: .long x :: r) h cells slots := fun H locs lsA hP hS hl => W.lcmp C.1 C.2.1 hd (k H locs lsA hP hS hl)
theorem mg_i2l (C : mm_Ctx p s m args meth c D B M) {x : Int32} (hd : decode M.2.2.1 pc = .ok (.i2l, 1)) (k : mm_G p l e R s m args below meth c Q D B M (pc + 1) ls (.long x.toInt64 :: r) h cells slots) : mm_G p l e R s m args below meth c Q D B M pc ls (.int x :: r) h cells slots := fun H locs lsA hP hS hl => lv_i2l C.1 C.2.1 hd rfl (k H locs lsA hP hS hl)
theorem mg_l2i (C : mm_Ctx p s m args meth c D B M) {x : Int64} (hd : decode M.2.2.1 pc = .ok (.l2i, 1)) (k : mm_G p l e R s m args below meth c Q D B M (pc + 1) ls (.int x.toInt32 :: r) h cells slots) : mm_G p l e R s m args below meth c Q D B M pc ls (.long x :: r) h cells slots := fun H locs lsA hP hS hl => lv_l2i C.1 C.2.1 hd rfl (k H locs lsA hP hS hl)
theorem mg_dup (C : mm_Ctx p s m args meth c D B M) {v : Value} (hd : decode M.2.2.1 pc = .ok (.dup, 1)) (hv : v.category = 1) (k : mm_G p l e R s m args below meth c Q D B M (pc + 1) ls (v :: v :: r) h cells slots) : mm_G p l e R s m args below meth c Q D B M pc ls (v :: r) h cells slots := fun H locs lsA hP hS hl => lv_dup C.1 C.2.1 hd (by rw [mm_sh_cat]; exact hv) (k H locs lsA hP hS hl)
theorem mg_pop (C : mm_Ctx p s m args meth c D B M) {v : Value} (hd : decode M.2.2.1 pc = .ok (.pop, 1)) (hv : v.category = 1) (k : mm_G p l e R s m args below meth c Q D B M (pc + 1) ls r h cells slots) : mm_G p l e R s m args below meth c Q D B M pc ls (v :: r) h cells slots := fun H locs lsA hP hS hl => lv_pop C.1 C.2.1 hd (by rw [mm_sh_cat]; exact hv) (k H locs lsA hP hS hl)
theorem mg_dup_x1 (C : mm_Ctx p s m args meth c D B M) {v u : Value} (hd : decode M.2.2.1 pc = .ok (.dup_x1, 1)) (hv : v.category = 1) (hu : u.category = 1) (k : mm_G p l e R s m args below meth c Q D B M (pc + 1) ls (v :: u :: v :: r) h cells slots) : mm_G p l e R s m args below meth c Q D B M pc ls (v :: u :: r) h cells slots := fun H locs lsA hP hS hl => lv_dup_x1 C.1 C.2.1 hd (by rw [mm_sh_cat]; exact hv) (by rw [mm_sh_cat]; exact hu) (k H locs lsA hP hS hl)
theorem mg_dup2 (C : mm_Ctx p s m args meth c D B M) {v u : Value} (hd : decode M.2.2.1 pc = .ok (.dup2, 1)) (hv : v.category = 1) (hu : u.category = 1) (k : mm_G p l e R s m args below meth c Q D B M (pc + 1) ls (v :: u :: v :: u :: r) h cells slots) : mm_G p l e R s m args below meth c Q D B M pc ls (v :: u :: r) h cells slots := fun H locs lsA hP hS hl => lv_dup2_11 C.1 C.2.1 hd (by rw [mm_sh_cat]; exact hv) (by rw [mm_sh_cat]; exact hu) (k H locs lsA hP hS hl)
theorem mg_if (C : mm_Ctx p s m args meth c D B M) {cd : Jvm.ClassFile.Cond} {x : Int32} {off : Int} (hd : decode M.2.2.1 pc = .ok (.ifCond cd off, 3)) (h0 : mm_cmp cd x 0 = true → 0 ≤ (pc : Int) + off) (kt : mm_cmp cd x 0 = true → mm_G p l e R s m args below meth c Q D B M ((pc : Int) + off).toNat ls r h cells slots) (kf : ¬ mm_cmp cd x 0 = true → mm_G p l e R s m args below meth c Q D B M (pc + 3) ls r h cells slots) : mm_G p l e R s m args below meth c Q D B M pc ls (.int x :: r) h cells slots := fun H locs lsA hP hS hl => by
  by_cases hc : mm_cmp cd x 0 = true
  · have ht : (pc : Int) + off = ((((pc : Int) + off).toNat : Nat) : Int) := by have := h0 hc; omega
    have k := kt hc H locs lsA hP hS hl
    cases cd <;> simp only [mm_cmp, decide_eq_true_eq] at hc
    · exact lv_if_eq C.1 C.2.1 hd ht (fun _ => k) (fun q => absurd hc q)
    · exact lv_if_ne C.1 C.2.1 hd ht (fun _ => k) (fun q => absurd q hc)
    · exact lv_if_lt C.1 C.2.1 hd ht (fun _ => k) (fun q => absurd hc q)
    · exact lv_if_ge C.1 C.2.1 hd ht (fun _ => k) (fun q => absurd hc q)
    · exact lv_if_gt C.1 C.2.1 hd ht (fun _ => k) (fun q => absurd hc q)
    · exact lv_if_le C.1 C.2.1 hd ht (fun _ => k) (fun q => absurd hc q)
  · have k := kf hc H locs lsA hP hS hl
    have key : ∀ (g : JFrame), (∀ T, At T m c below → ∀ tg, Steps p.tables e below (T.setTop (F0 m (pc + 3) lsA (r.map (mm_sh B)))) tg → Steps p.tables e below (T.setTop g) tg) → W p l e R s m args below meth c H locs cells slots Q g := fun g hg => W.go hg k
    refine key _ (fun T hT tg a => ?_)
    cases cd <;> simp only [mm_cmp, decide_eq_true_eq] at hc
    all_goals
      try replace hc := Classical.not_not.mp hc
      show Steps p.tables e below (T.setTop (F0 m pc lsA (.int x :: r.map (mm_sh B)))) tg
      jvm_step hT [hT.top, C.1, C.2.1, hd, Op.ifCond.holds, hc]
      exact a
theorem mg_icmp (C : mm_Ctx p s m args meth c D B M) {cd : Jvm.ClassFile.Cond} {x y : Int32} {off : Int} (hd : decode M.2.2.1 pc = .ok (.if_icmp cd off, 3)) (h0 : mm_cmp cd x y = true → 0 ≤ (pc : Int) + off) (kt : mm_cmp cd x y = true → mm_G p l e R s m args below meth c Q D B M ((pc : Int) + off).toNat ls r h cells slots) (kf : ¬ mm_cmp cd x y = true → mm_G p l e R s m args below meth c Q D B M (pc + 3) ls r h cells slots) : mm_G p l e R s m args below meth c Q D B M pc ls (.int y :: .int x :: r) h cells slots := fun H locs lsA hP hS hl => by
  by_cases hc : mm_cmp cd x y = true
  · have ht : (pc : Int) + off = ((((pc : Int) + off).toNat : Nat) : Int) := by have := h0 hc; omega
    have k := kt hc H locs lsA hP hS hl
    cases cd <;> simp only [mm_cmp, decide_eq_true_eq] at hc
    · exact lv_icmp_eq C.1 C.2.1 hd ht (fun _ => k) (fun q => absurd hc q)
    · exact lv_icmp_ne C.1 C.2.1 hd ht (fun _ => k) (fun q => absurd q hc)
    · exact lv_icmp_lt C.1 C.2.1 hd ht (fun _ => k) (fun q => absurd hc q)
    · exact lv_icmp_ge C.1 C.2.1 hd ht (fun _ => k) (fun q => absurd hc q)
    · exact lv_icmp_gt C.1 C.2.1 hd ht (fun _ => k) (fun q => absurd hc q)
    · exact lv_icmp_le C.1 C.2.1 hd ht (fun _ => k) (fun q => absurd hc q)
  · have k := kf hc H locs lsA hP hS hl
    refine W.go (fun T hT tg a => ?_) k
    cases cd <;> simp only [mm_cmp, decide_eq_true_eq] at hc
    all_goals
      try replace hc := Classical.not_not.mp hc
      show Steps p.tables e below (T.setTop (F0 m pc lsA (.int y :: .int x :: r.map (mm_sh B)))) tg
      jvm_step hT [hT.top, C.1, C.2.1, hd, Op.if_icmp.holds, hc]
      exact a
theorem mg_goto (C : mm_Ctx p s m args meth c D B M) {off : Int} (hd : decode M.2.2.1 pc = .ok (.goto off, 3)) (h0 : 0 ≤ (pc : Int) + off) (k : mm_G p l e R s m args below meth c Q D B M ((pc : Int) + off).toNat ls st h cells slots) : mm_G p l e R s m args below meth c Q D B M pc ls st h cells slots := fun H locs lsA hP hS hl => lv_goto C.1 C.2.1 hd (show (pc : Int) + off = ((((pc : Int) + off).toNat : Nat) : Int) by omega) (k H locs lsA hP hS hl)
theorem mg_nonnull (C : mm_Ctx p s m args meth c D B M) {off : Int} {a : Nat} (hd : decode M.2.2.1 pc = .ok (.ifnonnull off, 3)) (h0 : 0 ≤ (pc : Int) + off) (k : mm_G p l e R s m args below meth c Q D B M ((pc : Int) + off).toNat ls r h cells slots) : mm_G p l e R s m args below meth c Q D B M pc ls (.ref a :: r) h cells slots := fun H locs lsA hP hS hl => lv_ifnonnull C.1 C.2.1 hd (show (pc : Int) + off = ((((pc : Int) + off).toNat : Nat) : Int) by omega) (k H locs lsA hP hS hl)
theorem mg_nonnullN (C : mm_Ctx p s m args meth c D B M) {off : Int} (hd : decode M.2.2.1 pc = .ok (.ifnonnull off, 3)) (k : mm_G p l e R s m args below meth c Q D B M (pc + 3) ls r h cells slots) : mm_G p l e R s m args below meth c Q D B M pc ls (.null :: r) h cells slots := fun H locs lsA hP hS hl => lv_ifnonnullN C.1 C.2.1 hd (k H locs lsA hP hS hl)
theorem mg_tabOut (C : mm_Ctx p s m args meth c D B M) {d lo hi : Int} {offs : Array Int} {len : Nat} {x : Int32} (hd : decode M.2.2.1 pc = .ok (.tableswitch d lo hi offs, len)) (hx : x.toInt < lo ∨ hi < x.toInt) (h0 : 0 ≤ (pc : Int) + d) (k : mm_G p l e R s m args below meth c Q D B M ((pc : Int) + d).toNat ls r h cells slots) : mm_G p l e R s m args below meth c Q D B M pc ls (.int x :: r) h cells slots := fun H locs lsA hP hS hl => lv_tableOut C.1 C.2.1 hd hx (show (pc : Int) + d = ((((pc : Int) + d).toNat : Nat) : Int) by omega) (k H locs lsA hP hS hl)
theorem mg_tabIn (C : mm_Ctx p s m args meth c D B M) {d lo hi o : Int} {offs : Array Int} {len : Nat} {x : Int32} (hd : decode M.2.2.1 pc = .ok (.tableswitch d lo hi offs, len)) (hx : ¬ (x.toInt < lo ∨ hi < x.toInt)) (ho : offs[(x.toInt - lo).toNat]? = some o) (h0 : 0 ≤ (pc : Int) + o) (k : mm_G p l e R s m args below meth c Q D B M ((pc : Int) + o).toNat ls r h cells slots) : mm_G p l e R s m args below meth c Q D B M pc ls (.int x :: r) h cells slots := fun H locs lsA hP hS hl => lv_tableIn C.1 C.2.1 hd (fun q => hx (Or.inl q)) (fun q => hx (Or.inr q)) ho (show (pc : Int) + o = ((((pc : Int) + o).toNat : Nat) : Int) by omega) (k H locs lsA hP hS hl)
end MG
end
section
/-! the instructions that read and write the heap -/
theorem mm_fld_spec {o i ci k : Nat} (h : mm_fld o i = some (ci, k)) : ci < 5 ∧ k < mm_N ci ∧ Cond.fieldLink (mm_cn o) i (mm_F ci k).1 (mm_F ci k).2.1 (mm_F ci k).2.2.1 ∈ mm_Ws ∧ (mm_F ci k).1 = mm_cn ci := by
  obtain ⟨q, hq, hv⟩ := Option.map_eq_some_iff.mp h
  have h1 := List.find?_some hq
  have h2 := mm_fldL_ok q (List.mem_of_find?_eq_some hq)
  simp only [Bool.and_eq_true, beq_iff_eq] at h1
  rw [h1.1, h1.2, hv] at h2
  exact h2
theorem mm_cls_spec {o i k : Nat} (h : mm_cls o i = some k) : (k < 5 → Cond.classLink (mm_cn o) i (mm_cn k) ∈ mm_Ws ∧ Cond.instantiable (mm_cn k) (mm_N k) ∈ mm_Ws ∧ Cond.initialized (mm_cn k) ∈ mm_Ws) ∧ (k = 9 → Cond.classLink (mm_cn o) i ("[" ++ (FieldType.array .int).toString) ∈ mm_Ws) := by
  obtain ⟨q, hq, hv⟩ := Option.map_eq_some_iff.mp h
  have h1 := List.find?_some hq
  have h2 := mm_clsL_ok q (List.mem_of_find?_eq_some hq)
  simp only [Bool.and_eq_true, beq_iff_eq] at h1
  rw [h1.1, h1.2, hv] at h2
  exact h2
theorem mm_max_spec {o i k : Nat} (h : mm_max o i = some k) : (k = 0 → Cond.methodLink (mm_cn o) i Lib.Math.max.name ∈ mm_Ws) ∧ (k = 1 → Cond.methodLink (mm_cn o) i Lib.MathLoose.max_long.x ∈ mm_Ws) := by
  obtain ⟨q, hq, hv⟩ := Option.map_eq_some_iff.mp h
  have h1 := List.find?_some hq
  have h2 := mm_maxL_ok q (List.mem_of_find?_eq_some hq)
  simp only [Bool.and_eq_true, beq_iff_eq] at h1
  rw [h1.1, h1.2, hv] at h2
  exact h2
theorem mm_sh_nar {B : Nat × Nat} {ty : FieldType} {v : Value} (h : narrow ty v = v) : narrow ty (mm_sh B v) = mm_sh B v := by
  cases v <;> first | exact h | (cases ty <;> rfl)
theorem mm_sh_fit {B : Nat × Nat} {ty : FieldType} {v : Value} (h : fits ty v = true) : fits ty (mm_sh B v) = true := by
  cases v <;> first | exact h | (cases ty <;> first | rfl | (exact absurd h (by decide)) | exact h)
theorem mm_arrV {cA : ClassId} {n : Nat} {f g : Nat → Value} (h : ∀ j, j < n → f j = g j) : arrV cA n f = arrV cA n g := by
  unfold arrV
  congr 2
  funext j
  exact h j.val j.isLt
theorem mm_sh_df (B : Nat × Nat) (t : FieldType) : mm_sh B (defaultValue t) = defaultValue t := by cases t <;> rfl
theorem mm_cellO {D : va_G} {B : Nat × Nat} {a ci : Nat} {fs : List Value} {H : Heap} (h5 : ci < 5) (h : mm_cell D B a (ci, fs) H) : fs.length = mm_N ci ∧ t_OB (mm_am B a) (D.1 ci) (mm_N ci) (D.2 ci) H (vp_V (fs.map (mm_sh B))) := by
  unfold mm_cell at h
  rw [if_pos (show (ci, fs).1 < 5 from h5)] at h
  exact h
theorem mm_cellA {D : va_G} {B : Nat × Nat} {a ci : Nat} {fs : List Value} {H : Heap} (h5 : ¬ ci < 5) (h : mm_cell D B a (ci, fs) H) : H[mm_am B a]? = some (arrV (D.1 ci) fs.length (vp_V (fs.map (mm_sh B)))) := by
  unfold mm_cell at h
  rw [if_neg (show ¬ (ci, fs).1 < 5 from h5)] at h
  exact h
theorem mm_ofA {D : va_G} {B : Nat × Nat} {a ci : Nat} {fs : List Value} {H : Heap} (h5 : ¬ ci < 5) (h : H[mm_am B a]? = some (arrV (D.1 ci) fs.length (vp_V (fs.map (mm_sh B))))) : mm_cell D B a (ci, fs) H := by
  unfold mm_cell
  rw [if_neg (show ¬ (ci, fs).1 < 5 from h5)]
  exact h
theorem mm_vV {B : Nat × Nat} {fs : List Value} {j : Nat} {v : Value} (h : fs[j]? = some v) : vp_V (fs.map (mm_sh B)) j = mm_sh B v := by
  simp [vp_V, List.getD, h]
theorem mm_setA {B : Nat × Nat} {cA : ClassId} {fs : List Value} {k : Nat} (hk : k < fs.length) (v : Value) : (arrV cA fs.length (vp_V (fs.map (mm_sh B)))).setSlot k (mm_sh B v) = arrV cA (fs.set k v).length (vp_V ((fs.set k v).map (mm_sh B))) := by
  rw [arrV_store, List.length_set]
  refine mm_arrV (fun j _ => ?_)
  rw [vp_updV_set (by rw [List.length_map]; exact hk), List.map_set]
theorem mm_ix_spec {vs : List Value} {j : Int32} {v : Value} (h : mm_ix vs j = some v) : ¬ j < 0 ∧ j.toNatClampNeg < vs.length ∧ vs[j.toNatClampNeg]? = some v := by
  unfold mm_ix at h
  by_cases hj : j < 0
  · rw [if_pos hj] at h
    cases h
  · rw [if_neg hj] at h
    exact ⟨hj, (List.getElem?_eq_some_iff.mp h).1, h⟩
section MG
variable {p : Program} {l : Launch} {e : Env} {R : Room} {s : State} {m : MethodId} {args : Array Value} {below : List Frame} {meth : Method} {c : Code} {Q : State → Prop} {D : va_G} {B : Nat × Nat} {M : mm_T}
variable {pc cells slots : Nat} {ls : mm_L} {st r : List Value} {h : mm_H}
theorem mg_get (C : mm_Ctx p s m args meth c D B M) {i ci k a : Nat} {fs : List Value} {v : Value} (hd : decode M.2.2.1 pc = .ok (.getfield i, 3)) (hf : mm_fld M.1 i = some (ci, k)) (hc : h.2.2 a = some (ci, fs)) (hv : fs[k]? = some v) (kk : mm_G p l e R s m args below meth c Q D B M (pc + 3) ls (v :: r) h cells slots) : mm_G p l e R s m args below meth c Q D B M pc ls (.ref a :: r) h cells slots := fun H locs lsA hP hS hl => by
  obtain ⟨h5, hkN, hlink, -⟩ := mm_fld_spec hf
  have hcell := mm_cellO h5 (hP.2.2 a _ hc).2.2
  have hP1 : va_P D vwCl [(mm_am B a, .inr (ci, fs.map (mm_sh B)))] H := fun j q hj => by
    have hz : j < 1 := (List.getElem?_eq_some_iff.mp hj).1
    rw [show j = 0 by omega] at hj
    cases hj
    exact ⟨_, mm_cl_at ci h5, hcell.2⟩
  exact va_get (tys := mm_tys D) (Ts := mm_Ws) C.1 C.2.1 C.2.2.2.2.1 (mm_lay_ok ci h5) C.2.2.2.1 C.2.2.2.2.2.1.1 hP1 0 rfl (mm_cl_at ci h5) k hkN (C.2.2.2.2.1 _ hlink) (fun _ h9 => h9) (v := mm_sh B v) (by rw [List.getElem?_map, hv]; rfl) hd (kk H locs lsA hP hS hl)
set_option maxHeartbeats 1000000 in
theorem mg_put (C : mm_Ctx p s m args meth c D B M) {i ci k a : Nat} {fs : List Value} {v : Value} (hd : decode M.2.2.1 pc = .ok (.putfield i, 3)) (hf : mm_fld M.1 i = some (ci, k)) (hc : h.2.2 a = some (ci, fs)) (hk : k < fs.length) (hn : narrow (mm_ty ci k) v = v) (hft : fits (mm_ty ci k) v = true) (hfin : (mm_F ci k).2.2.2 = false ∨ (M.2.1.name = "<init>" ∧ M.1 = ci)) (kk : mm_G p l e R s m args below meth c Q D B M (pc + 3) ls r (mm_up h a (ci, fs.set k v)) cells slots) : mm_G p l e R s m args below meth c Q D B M pc ls (v :: .ref a :: r) h cells slots := fun H locs lsA hP hS hl => by
  obtain ⟨h5, hkN, hlink, hcn⟩ := mm_fld_spec hf
  obtain ⟨ha0, hal, hce⟩ := hP.2.2 a _ hc
  obtain ⟨hlen, cell, q1, q2, q3, q4⟩ := mm_cellO h5 hce
  obtain ⟨hx, hb, hml, hown, hts, hWF, hnm, hB1, hB2⟩ := C
  have hK := hWF.1
  have hin := mm_lay_ok ci h5
  have hcl := mm_cl_at ci h5
  have hap := va_apart (own := mm_cn M.1) hts hin (mm_ty ci) (mm_ty_ok ci h5) (mm_nm_ok ci h5) hK hcl
  obtain ⟨hSl, hfc, kC, hkC, hkind⟩ := hK.1 ci _ hcl
  obtain ⟨cf, kf, fi, f, hi, hsl⟩ := hSl k hkN
  have hlay := hts _ (hin _ (u_in_lay hkN))
  have hst := (u_facts hfc hkC (u_lays hts hin hkN) hi).1
  have hdt := mm_ty_ok ci h5 k hkN
  have hn' : narrow (mm_ty ci k) (mm_sh B v) = mm_sh B v := mm_sh_nar hn
  have hf' : fits (mm_ty ci k) (mm_sh B v) = true := mm_sh_fit hft
  have haA : B.2 ≤ mm_am B a := by
    unfold mm_am
    rw [if_neg (by omega)]
    omega
  have fin : ∀ H' : Heap, H'[mm_am B a]? = some (cell.setSlot f.slot (mm_sh B v)) → H'.size = H.size → (∀ q, q ≠ mm_am B a → H'[q]? = H[q]?) → W p l e R s m args below meth c H' (locs ++ [⟨mm_am B a, f.slot⟩]) cells slots Q (F0 m (pc + 3) lsA (r.map (mm_sh B))) := fun H' e1 e2 e3 => by
    rw [hsl] at e1 ⊢
    refine kk H' _ lsA (hP.up hc ?_ e2 e3) (hS.put e2 e3 haA) hl
    unfold mm_cell
    rw [if_pos (show (ci, fs.set k v).1 < 5 from h5)]
    refine ⟨by show (fs.set k v).length = _; rw [List.length_set]; exact hlen, ?_⟩
    refine t_OB.to (V := updV (vp_V (fs.map (mm_sh B))) k (mm_sh B v)) ⟨_, e1, q2, q3, t_set q4 hap hkN (mm_sh B v)⟩ (fun j _ => ?_)
    rw [vp_updV_set (by rw [List.length_map]; exact hk), List.map_set]
  unfold u_lay at hlay
  by_cases hfl : (mm_F ci k).2.2.2 = false
  · rw [if_neg (by rw [hfl]; decide)] at hlay
    have h6 := u_store hfc hkC hkind hlay hi hdt hn' hf'
    exact W.putK hx hb (f := f) ⟨hown, hts _ hlink, ⟨_, _, _, hi⟩, hst⟩ (by rw [q2]; exact h6) q1 q3 (by rw [hsl]; exact k2_hasslot (q4 k hkN)) rfl rfl hd fin
  · have hft2 : (mm_F ci k).2.2.2 = true := by revert hfl; cases (mm_F ci k).2.2.2 <;> simp
    obtain ⟨hnm2, hMc⟩ := hfin.resolve_left hfl
    rw [if_pos hft2] at hlay
    have hcf : m.cls = cf := by
      obtain ⟨_, _, c', _, _, _, -, -, hf', -, -, -, hown2, -⟩ := Cond.laysFinal_spec hlay
      have e1 : c' = cf := by have := hi.symm.trans hf'; simp at this; exact this.1.symm
      rw [hcn, ← hMc] at hown2
      rw [← e1]; exact Option.some.inj (hown.symm.trans hown2)
    have h6 := u_fits hfc hkC hkind (Or.inr hlay) hi hdt hn' hf'
    exact W.putFinK hx hb hown (hts _ hlink) hi hst hcf (hnm hnm2) (by rw [q2]; exact h6) q1 q3 (by rw [hsl]; exact k2_hasslot (q4 k hkN)) rfl rfl hd fin
theorem mg_iald (C : mm_Ctx p s m args meth c D B M) {a : Nat} {vs : List Value} {j : Int32} {v : Value} (hd : decode M.2.2.1 pc = .ok (.iaload, 1)) (hc : h.2.2 a = some (5, vs)) (hv : mm_ix vs j = some v) (kk : mm_G p l e R s m args below meth c Q D B M (pc + 1) ls (v :: r) h cells slots) : mm_G p l e R s m args below meth c Q D B M pc ls (.int j :: .ref a :: r) h cells slots := fun H locs lsA hP hS hl => by
  obtain ⟨h1, h2, h3⟩ := mm_ix_spec hv
  have hcell := mm_cellA (by decide) (hP.2.2 a _ hc).2.2
  exact W.iald (v := mm_sh B v) C.1 C.2.1 hcell ((C.2.2.2.2.2.1.1.2 0 _ rfl).1 _ _) (fun q => by cases q) (by rw [arrV_size]; exact fun q => q.elim h1 (fun q => absurd h2 (Nat.not_lt.mpr q))) (by rw [arrV_read _ _ h2, mm_vV h3]) rfl rfl hd (kk H locs lsA hP hS hl)
theorem mg_lald (C : mm_Ctx p s m args meth c D B M) {a : Nat} {vs : List Value} {j : Int32} {v : Value} (hd : decode M.2.2.1 pc = .ok (.laload, 1)) (hc : h.2.2 a = some (6, vs)) (hv : mm_ix vs j = some v) (kk : mm_G p l e R s m args below meth c Q D B M (pc + 1) ls (v :: r) h cells slots) : mm_G p l e R s m args below meth c Q D B M pc ls (.int j :: .ref a :: r) h cells slots := fun H locs lsA hP hS hl => by
  obtain ⟨h1, h2, h3⟩ := mm_ix_spec hv
  have hcell := mm_cellA (by decide) (hP.2.2 a _ hc).2.2
  exact W.lald (v := mm_sh B v) C.1 C.2.1 hcell ((C.2.2.2.2.2.1.1.2 1 _ rfl).1 _ _) (fun q => by cases q) (by rw [arrV_size]; exact fun q => q.elim h1 (fun q => absurd h2 (Nat.not_lt.mpr q))) (by rw [arrV_read _ _ h2, mm_vV h3]) rfl rfl hd (kk H locs lsA hP hS hl)
theorem mg_aald (C : mm_Ctx p s m args meth c D B M) {a ci : Nat} {vs : List Value} {j : Int32} {v : Value} (hd : decode M.2.2.1 pc = .ok (.aaload, 1)) (hci : ci = 7 ∨ ci = 8 ∨ ci = 9) (hc : h.2.2 a = some (ci, vs)) (hv : mm_ix vs j = some v) (kk : mm_G p l e R s m args below meth c Q D B M (pc + 1) ls (v :: r) h cells slots) : mm_G p l e R s m args below meth c Q D B M pc ls (.int j :: .ref a :: r) h cells slots := fun H locs lsA hP hS hl => by
  obtain ⟨h1, h2, h3⟩ := mm_ix_spec hv
  have hcell := mm_cellA (by omega) (hP.2.2 a _ hc).2.2
  have key : ∀ ty : FieldType, ty.isReference = true → ArrOfT s (D.1 ci) ty → W p l e R s m args below meth c H locs cells slots Q (F0 m pc lsA ((Value.int j :: .ref a :: r).map (mm_sh B))) := fun ty ht hA =>
    W.aald (v := mm_sh B v) (ty := ty) C.1 C.2.1 hcell (hA _ _) ht (fun q => by cases q) (by rw [arrV_size]; exact fun q => q.elim h1 (fun q => absurd h2 (Nat.not_lt.mpr q))) (by rw [arrV_read _ _ h2, mm_vV h3]) rfl rfl hd (kk H locs lsA hP hS hl)
  have hK := C.2.2.2.2.2.1.1
  rcases hci with rfl | rfl | rfl
  · exact key _ rfl (hK.2 2 _ rfl).1
  · exact key _ rfl (hK.2 3 _ rfl).1
  · exact key _ rfl (hK.2 4 _ rfl).1
theorem mg_iast (C : mm_Ctx p s m args meth c D B M) {a : Nat} {vs : List Value} {j x : Int32} (hd : decode M.2.2.1 pc = .ok (.iastore, 1)) (hc : h.2.2 a = some (5, vs)) (h1 : ¬ j < 0) (h2 : j.toNatClampNeg < vs.length) (kk : mm_G p l e R s m args below meth c Q D B M (pc + 1) ls r (mm_up h a (5, vs.set j.toNatClampNeg (.int x))) cells slots) : mm_G p l e R s m args below meth c Q D B M pc ls (.int x :: .int j :: .ref a :: r) h cells slots := fun H locs lsA hP hS hl => by
  obtain ⟨g1, g2, g3⟩ := hP.2.2 a _ hc
  have hcell := mm_cellA (by decide) g3
  refine W.iast C.1 C.2.1 hcell ((C.2.2.2.2.2.1.1.2 0 _ rfl).1 _ _) (fun q => by cases q) (by rw [arrV_size]; exact fun q => q.elim h1 (fun q => absurd h2 (Nat.not_lt.mpr q))) rfl rfl hd fun H' e1 e2 e3 => ?_
  refine kk H' _ lsA (hP.up hc (mm_ofA (by decide) ?_) e2 e3) (hS.put e2 e3 ?_) hl
  · rw [e1]
    exact congrArg some (mm_setA h2 (.int x))
  · show B.2 ≤ mm_am B a
    unfold mm_am
    rw [if_neg (by omega)]
    omega
theorem mg_last (C : mm_Ctx p s m args meth c D B M) {a : Nat} {vs : List Value} {j : Int32} {x : Int64} (hd : decode M.2.2.1 pc = .ok (.lastore, 1)) (hc : h.2.2 a = some (6, vs)) (h1 : ¬ j < 0) (h2 : j.toNatClampNeg < vs.length) (kk : mm_G p l e R s m args below meth c Q D B M (pc + 1) ls r (mm_up h a (6, vs.set j.toNatClampNeg (.long x))) cells slots) : mm_G p l e R s m args below meth c Q D B M pc ls (.long x :: .int j :: .ref a :: r) h cells slots := fun H locs lsA hP hS hl => by
  obtain ⟨g1, g2, g3⟩ := hP.2.2 a _ hc
  have hcell := mm_cellA (by decide) g3
  refine W.last C.1 C.2.1 hcell ((C.2.2.2.2.2.1.1.2 1 _ rfl).1 _ _) (fun q => by cases q) (by rw [arrV_size]; exact fun q => q.elim h1 (fun q => absurd h2 (Nat.not_lt.mpr q))) rfl rfl hd fun H' e1 e2 e3 => ?_
  refine kk H' _ lsA (hP.up hc (mm_ofA (by decide) ?_) e2 e3) (hS.put e2 e3 ?_) hl
  · rw [e1]
    exact congrArg some (mm_setA h2 (.long x))
  · show B.2 ≤ mm_am B a
    unfold mm_am
    rw [if_neg (by omega)]
    omega
theorem mg_aastN (C : mm_Ctx p s m args meth c D B M) {a ci : Nat} {vs : List Value} {j : Int32} (hd : decode M.2.2.1 pc = .ok (.aastore, 1)) (hci : ci = 7 ∨ ci = 8) (hc : h.2.2 a = some (ci, vs)) (h1 : ¬ j < 0) (h2 : j.toNatClampNeg < vs.length) (kk : mm_G p l e R s m args below meth c Q D B M (pc + 1) ls r (mm_up h a (ci, vs.set j.toNatClampNeg .null)) cells slots) : mm_G p l e R s m args below meth c Q D B M pc ls (.null :: .int j :: .ref a :: r) h cells slots := fun H locs lsA hP hS hl => by
  obtain ⟨g1, g2, g3⟩ := hP.2.2 a _ hc
  have hcell := mm_cellA (by omega) g3
  have key : ∀ C9 : String, ArrOfT s (D.1 ci) (.object C9) → W p l e R s m args below meth c H locs cells slots Q (F0 m pc lsA ((Value.null :: .int j :: .ref a :: r).map (mm_sh B))) := fun C9 hA => by
    refine va_WaastN (C := C9) C.1 C.2.1 hcell (hA _ _) (fun q => by cases q) (by rw [arrV_size]; exact fun q => q.elim h1 (fun q => absurd h2 (Nat.not_lt.mpr q))) rfl rfl hd fun H' e1 e2 e3 => ?_
    refine kk H' _ lsA (hP.up hc (mm_ofA (by omega) ?_) e2 e3) (hS.put e2 e3 ?_) hl
    · rw [e1]
      exact congrArg some (mm_setA h2 .null)
    · show B.2 ≤ mm_am B a
      unfold mm_am
      rw [if_neg (by omega)]
      omega
  have hK := C.2.2.2.2.2.1.1
  rcases hci with rfl | rfl
  · exact key _ (hK.2 2 _ rfl).1
  · exact key _ (hK.2 3 _ rfl).1
theorem mg_aast (C : mm_Ctx p s m args meth c D B M) {a b ci : Nat} {vs us : List Value} {j : Int32} (hd : decode M.2.2.1 pc = .ok (.aastore, 1)) (hci : ci = 0 ∨ ci = 1) (hc : h.2.2 a = some (7 + ci, vs)) (hb9 : h.2.2 b = some (ci, us)) (h1 : ¬ j < 0) (h2 : j.toNatClampNeg < vs.length) (kk : mm_G p l e R s m args below meth c Q D B M (pc + 1) ls r (mm_up h a (7 + ci, vs.set j.toNatClampNeg (.ref b))) cells slots) : mm_G p l e R s m args below meth c Q D B M pc ls (.ref b :: .int j :: .ref a :: r) h cells slots := fun H locs lsA hP hS hl => by
  obtain ⟨g1, g2, g3⟩ := hP.2.2 a _ hc
  have hcell := mm_cellA (by omega) g3
  have h5 : ci < 5 := by omega
  obtain ⟨-, cellV, f1, f2, f3, -⟩ := mm_cellO h5 (hP.2.2 b _ hb9).2.2
  have hK := C.2.2.2.2.2.1.1
  have hcls := (hK.1 ci _ (mm_cl_at ci h5)).2
  have hRA : va_RA s (D.1 (7 + ci)) (.object (mm_cn ci)) := by
    rcases hci with rfl | rfl
    · exact (hK.2 2 _ rfl).2
    · exact (hK.2 3 _ rfl).2
  obtain ⟨kA, comp, k1, k2, k3, -⟩ := hRA
  have hcomp : comp = D.1 ci := Option.some.inj (k3.symm.trans hcls.1)
  subst hcomp
  obtain ⟨kC, hkC, -⟩ := hcls.2
  refine W.aast C.1 C.2.1 hcell (fun q h => by cases h) (fun h => by cases h) k1 k2 rfl hkC ⟨h1, by rw [arrV_size]; exact h2⟩ f1 (fun q h => by rw [f3] at h; cases h) (by rw [f2]; exact hkC) (by rw [f2]; exact va_assign hcls) rfl rfl hd fun H' e1 e2 e3 => ?_
  refine kk H' _ lsA (hP.up hc (mm_ofA (by omega) ?_) e2 e3) (hS.put e2 e3 ?_) hl
  · rw [e1]
    exact congrArg some (mm_setA h2 (.ref b))
  · show B.2 ≤ mm_am B a
    unfold mm_am
    rw [if_neg (by omega)]
    omega
theorem mg_sld (C : mm_Ctx p s m args meth c D B M) {xs : List Int32} (hX : va_X B.1 xs.length (fun j => xs.getD j 0) s s.heap) {j x : Int32} (hd : decode M.2.2.1 pc = .ok (.iaload, 1)) (h1 : ¬ j < 0) (hv : xs[j.toNatClampNeg]? = some x) (kk : mm_G p l e R s m args below meth c Q D B M (pc + 1) ls (.int x :: r) h cells slots) : mm_G p l e R s m args below meth c Q D B M pc ls (.int j :: .ref 0 :: r) h cells slots := fun H locs lsA hP hS hl => by
  have hlt := (List.getElem?_eq_some_iff.mp hv).1
  have hx : xs.getD j.toNatClampNeg 0 = x := by simp [List.getD, hv]
  have k := kk H locs lsA hP hS hl
  rw [← hx] at k
  exact va_sld (A := fun q => B.2 ≤ q) C.1 C.2.1 hX (by have := C.2.2.2.2.2.2.2; omega) (Nat.not_le.mpr C.2.2.2.2.2.2.2.1) hS (fun q => q.elim h1 (fun q => absurd hlt (Nat.not_lt.mpr q))) hd k
theorem mg_slen (C : mm_Ctx p s m args meth c D B M) {xs : List Int32} (hX : va_X B.1 xs.length (fun j => xs.getD j 0) s s.heap) (hd : decode M.2.2.1 pc = .ok (.arraylength, 1)) (kk : mm_G p l e R s m args below meth c Q D B M (pc + 1) ls (.int (Int32.ofNat xs.length) :: r) h cells slots) : mm_G p l e R s m args below meth c Q D B M pc ls (.ref 0 :: r) h cells slots := fun H locs lsA hP hS hl =>
  va_slen (A := fun q => B.2 ≤ q) (b := B.1) C.1 C.2.1 hX (by have := C.2.2.2.2.2.2.2; omega) (Nat.not_le.mpr C.2.2.2.2.2.2.2.1) hS hd (kk H locs lsA hP hS hl)
theorem mg_new (C : mm_Ctx p s m args meth c D B M) {i k : Nat} (hd : decode M.2.2.1 pc = .ok (.new i, 3)) (hk : mm_cls M.1 i = some k) (h5 : k < 5) (hcl : cells + 1 ≤ R.cells) (hsl : slots + (mm_df k).length ≤ R.slots) (kk : mm_G p l e R s m args below meth c Q D B M (pc + 3) ls (.ref h.1 :: st) (mm_new h (k, mm_df k)) (cells + 1) (slots + (mm_df k).length)) : mm_G p l e R s m args below meth c Q D B M pc ls st h cells slots := fun H locs lsA hP hS hl => by
  have hN : (mm_df k).length = mm_N k := by simp [mm_df]
  rw [hN] at hsl kk
  obtain ⟨w1, w2, w3⟩ := (mm_cls_spec hk).1 h5
  obtain ⟨hx, hb, hml, hown, hts, hWF, hnm, hB1, hB2⟩ := C
  have hKn := hWF.1.1 k _ (mm_cl_at k h5)
  have ham := hP.am
  refine W.newcK hx hb hown (hts _ w1) (hts _ w2) (hts _ w3) rfl hd hcl hsl hKn.2.1 ham.symm fun H1 kC hkC e1 z1 o1 => ?_
  have kk2 := kk H1 locs lsA (hP.new ?_ (by rw [z1, ham]) (fun q hq => o1 q (by rw [ham]; exact hq))) ⟨Nat.le_trans hS.1 (by rw [z1, ham]; omega), fun q h1 h2 => by rw [o1 q (by rw [ham]; exact Nat.lt_of_lt_of_le h1 hS.1)]; exact hS.2.1 q h1 h2, hS.2.2⟩ hl
  · exact kk2
  · unfold mm_cell
    rw [if_pos (show (k, mm_df k).1 < 5 from h5)]
    refine ⟨hN, ?_⟩
    refine (u_born (mm_ty k) hts (mm_lay_ok k h5) hKn hkC e1 (mm_ty_ok k h5)).to (fun j hj => ?_)
    have : (mm_df k)[j]? = some (defaultValue (mm_ty k j)) := by simp [mm_df, hj]
    rw [mm_vV this, mm_sh_df]
theorem mg_newI (C : mm_Ctx p s m args meth c D B M) {n : Int32} (hd : decode M.2.2.1 pc = .ok (.newarray .int, 2)) (h1 : ¬ n < 0) (h2 : ¬ 10000 < n.toNatClampNeg) (hcl : cells + 1 ≤ R.cells) (hsl : slots + n.toNatClampNeg ≤ R.slots) (kk : mm_G p l e R s m args below meth c Q D B M (pc + 2) ls (.ref h.1 :: r) (mm_new h (5, List.replicate n.toNatClampNeg (.int 0))) (cells + 1) (slots + n.toNatClampNeg)) : mm_G p l e R s m args below meth c Q D B M pc ls (.int n :: r) h cells slots := fun H locs lsA hP hS hl => by
  obtain ⟨hx, hb, hml, hown, hts, hWF, hnm, hB1, hB2⟩ := C
  have ham := hP.am
  refine va_newaK (atype := .int) hx hb (hts _ mm_obj_ok.2.2.1) rfl hd rfl h1 rfl (by show n.toNatClampNeg * 4 ≤ _; omega) hcl hsl ham.symm fun H1 cA e1 z1 o1 hAr hNm => ?_
  have hcA : cA = D.1 5 := Option.some.inj (hNm.symm.trans (hWF.1.2 0 _ rfl).2)
  refine kk H1 locs lsA (hP.new (mm_ofA (by decide) ?_) (by rw [z1, ham]) (fun q hq => o1 q (by rw [ham]; exact hq))) ⟨Nat.le_trans hS.1 (by rw [z1, ham]; omega), fun q h1 h2 => by rw [o1 q (by rw [ham]; exact Nat.lt_of_lt_of_le h1 hS.1)]; exact hS.2.1 q h1 h2, hS.2.2⟩ hl
  rw [e1, hcA, List.length_replicate]
  refine congrArg some (mm_arrV (fun j hj => ?_))
  rw [mm_vV (v := .int 0) (by simp [hj])]
  rfl
theorem mg_newJ (C : mm_Ctx p s m args meth c D B M) {n : Int32} (hd : decode M.2.2.1 pc = .ok (.newarray .long, 2)) (h1 : ¬ n < 0) (h2 : ¬ 10000 < n.toNatClampNeg) (hcl : cells + 1 ≤ R.cells) (hsl : slots + n.toNatClampNeg ≤ R.slots) (kk : mm_G p l e R s m args below meth c Q D B M (pc + 2) ls (.ref h.1 :: r) (mm_new h (6, List.replicate n.toNatClampNeg (.long 0))) (cells + 1) (slots + n.toNatClampNeg)) : mm_G p l e R s m args below meth c Q D B M pc ls (.int n :: r) h cells slots := fun H locs lsA hP hS hl => by
  obtain ⟨hx, hb, hml, hown, hts, hWF, hnm, hB1, hB2⟩ := C
  have ham := hP.am
  refine va_newaK (atype := .long) hx hb (hts _ mm_obj_ok.2.2.2) rfl hd rfl h1 rfl (by show n.toNatClampNeg * 8 ≤ _; omega) hcl hsl ham.symm fun H1 cA e1 z1 o1 hAr hNm => ?_
  have hcA : cA = D.1 6 := Option.some.inj (hNm.symm.trans (hWF.1.2 1 _ rfl).2)
  refine kk H1 locs lsA (hP.new (mm_ofA (by decide) ?_) (by rw [z1, ham]) (fun q hq => o1 q (by rw [ham]; exact hq))) ⟨Nat.le_trans hS.1 (by rw [z1, ham]; omega), fun q h1 h2 => by rw [o1 q (by rw [ham]; exact Nat.lt_of_lt_of_le h1 hS.1)]; exact hS.2.1 q h1 h2, hS.2.2⟩ hl
  rw [e1, hcA, List.length_replicate]
  refine congrArg some (mm_arrV (fun j hj => ?_))
  rw [mm_vV (v := .long 0) (by simp [hj])]
  rfl
theorem mg_newA (C : mm_Ctx p s m args meth c D B M) {n : Int32} {i k : Nat} (hd : decode M.2.2.1 pc = .ok (.anewarray i, 3)) (hk : mm_cls M.1 i = some k) (h5 : k = 0 ∨ k = 1) (h1 : ¬ n < 0) (h2 : ¬ 10000 < n.toNatClampNeg) (hcl : cells + 1 ≤ R.cells) (hsl : slots + n.toNatClampNeg ≤ R.slots) (kk : mm_G p l e R s m args below meth c Q D B M (pc + 3) ls (.ref h.1 :: r) (mm_new h (7 + k, List.replicate n.toNatClampNeg .null)) (cells + 1) (slots + n.toNatClampNeg)) : mm_G p l e R s m args below meth c Q D B M pc ls (.int n :: r) h cells slots := fun H locs lsA hP hS hl => by
  obtain ⟨hx, hb, hml, hown, hts, hWF, hnm, hB1, hB2⟩ := C
  have ham := hP.am
  obtain ⟨w1, -, -⟩ := (mm_cls_spec hk).1 (by omega)
  have hover : (Cond.arrayOver (.object (mm_cn k))).before args s = true := by
    rcases h5 with rfl | rfl
    · exact va_AO.use hWF.2.1
    · exact va_AO.use hWF.2.2.1
  have hRA : va_RA s (D.1 (7 + k)) (.object (mm_cn k)) := by
    rcases h5 with rfl | rfl
    · exact (hWF.1.2 2 _ rfl).2
    · exact (hWF.1.2 3 _ rfl).2
  obtain ⟨kA2, comp2, -, -, -, k4⟩ := hRA
  refine W.anew hx hb hown (hts _ w1) hover rfl hd rfl h1 (by omega) hcl hsl fun cA kA comp f1 f2 f3 f4 => ?_
  have hcA : cA = D.1 (7 + k) := Option.some.inj (f1.symm.trans k4)
  subst hcA
  generalize hH1 : H.push ({ cls := D.1 (7 + k), slots := Array.replicate n.toNatClampNeg .null, vm := .none } : Cell) = H1
  have z1 : H1.size = H.size + 1 := by rw [← hH1, Array.size_push]
  have e1 : H1[H.size]? = some (arrV (D.1 (7 + k)) n.toNatClampNeg (fun _ => .null)) := by rw [← hH1, Array.getElem?_push_size, ← arrV_new]
  have o1 : ∀ q : Nat, q < H.size → H1[q]? = H[q]? := fun q hq => by rw [← hH1, Array.getElem?_push, if_neg (Nat.ne_of_lt hq)]
  have kk2 := kk H1 locs lsA (hP.new (mm_ofA (by omega) ?_) z1 o1) ⟨Nat.le_trans hS.1 (by omega), fun q h1 h2 => by rw [o1 q (Nat.lt_of_lt_of_le h1 hS.1)]; exact hS.2.1 q h1 h2, hS.2.2⟩ hl
  · have e : mm_sh B (.ref h.1) = .ref H.size := congrArg Value.ref ham
    have e2 : ((Value.ref h.1 :: r).map (mm_sh B)) = .ref H.size :: r.map (mm_sh B) := by rw [List.map_cons, e]
    rw [e2] at kk2
    exact kk2
  · rw [ham, e1, List.length_replicate]
    refine congrArg some (mm_arrV (fun j hj => ?_))
    rw [mm_vV (v := .null) (by simp [hj])]
    rfl
theorem mg_maxI (C : mm_Ctx p s m args meth c D B M) {i : Nat} {x y : Int32} (hd : decode M.2.2.1 pc = .ok (.invokestatic i, 3)) (hm : mm_max M.1 i = some 0) (hF1 : 1 ≤ R.frames) (hF2 : 40 ≤ R.locals) (hcs : (r.map fun v => v.category).sum ≤ 8) (hcl : cells ≤ R.cells) (hsl : slots ≤ R.slots) (kk : mm_G p l e R s m args below meth c Q D B M (pc + 3) ls (.int (if x < y then y else x) :: r) h cells slots) : mm_G p l e R s m args below meth c Q D B M pc ls (.int y :: .int x :: r) h cells slots := fun H locs lsA hP hS hl => by
  obtain ⟨hx, hb, hml, hown, hts, hWF, hnm, hB1, hB2⟩ := C
  have hsum : ((r.map (mm_sh B)).map fun v => v.category).sum ≤ 8 := by
    rw [List.map_map]
    have : ((fun v : Value => v.category) ∘ mm_sh B) = fun v => v.category := funext fun v => mm_sh_cat B v
    rw [this]
    exact hcs
  exact va_mmax hx hb (by rw [hml]; exact hl.1.symm) hown (hts _ ((mm_max_spec hm).1 rfl)) (hts _ mm_max_ok.2.1) (hts _ mm_max_ok.1) (hts _ mm_max_code.1) hF1 (by omega) hcl hsl hd (kk H locs lsA hP hS hl)
theorem mg_maxJ (C : mm_Ctx p s m args meth c D B M) {i : Nat} {x y : Int64} (hd : decode M.2.2.1 pc = .ok (.invokestatic i, 3)) (hm : mm_max M.1 i = some 1) (hF1 : 1 ≤ R.frames) (hF2 : 40 ≤ R.locals) (hcs : (r.map fun v => v.category).sum ≤ 8) (hcl : cells ≤ R.cells) (hsl : slots ≤ R.slots) (kk : mm_G p l e R s m args below meth c Q D B M (pc + 3) ls (.long (if y < x then x else y) :: r) h cells slots) : mm_G p l e R s m args below meth c Q D B M pc ls (.long y :: .long x :: r) h cells slots := fun H locs lsA hP hS hl => by
  obtain ⟨hx, hb, hml, hown, hts, hWF, hnm, hB1, hB2⟩ := C
  have hsum : ((r.map (mm_sh B)).map fun v => v.category).sum ≤ 8 := by
    rw [List.map_map]
    have : ((fun v : Value => v.category) ∘ mm_sh B) = fun v => v.category := funext fun v => mm_sh_cat B v
    rw [this]
    exact hcs
  exact va_mmax_long hx hb (by rw [hml]; exact hl.1.symm) hown (hts _ ((mm_max_spec hm).2 rfl)) (hts _ mm_max_ok.2.2) (hts _ mm_max_ok.1) (hts _ mm_max_code.2) hF1 (by omega) hcl hsl hd (kk H locs lsA hP hS hl)
theorem mg_obj (C : mm_Ctx p s m args meth c D B M) {i a : Nat} (hd : decode M.2.2.1 pc = .ok (.invokespecial i, 3)) (hm : (M.1, i) ∈ mm_objL) (hF1 : 1 ≤ R.frames) (hF2 : 40 ≤ R.locals) (hcs : (r.map fun v => v.category).sum ≤ 8) (kk : mm_G p l e R s m args below meth c Q D B M (pc + 3) ls r h cells slots) : mm_G p l e R s m args below meth c Q D B M pc ls (.ref a :: r) h cells slots := fun H locs lsA hP hS hl => by
  obtain ⟨hx, hb, hml, hown, hts, hWF, hnm, hB1, hB2⟩ := C
  have hsum : ((r.map (mm_sh B)).map fun v => v.category).sum ≤ 8 := by
    rw [List.map_map]
    have : ((fun v : Value => v.category) ∘ mm_sh B) = fun v => v.category := funext fun v => mm_sh_cat B v
    rw [this]
    exact hcs
  exact W.objInit hx hb hown (hts _ (mm_objL_ok _ hm)) (hts _ mm_obj_ok.1) (hts _ mm_obj_ok.2.1) rfl (by rw [hml]; exact hl.1) rfl hd hF1 (by show 2 * 0 + _ + 12 ≤ _; omega) (kk H locs lsA hP hS hl)
end MG
end
section
/-! one step of the mini-machine that is no call and no return, as one step of the machine -/
theorem mm_at_dec {M : mm_T} {pc : Nat} {ins : Instr} (h : mm_at M pc = some ins) : ∃ len, decode M.2.2.1 pc = .ok (ins, len) ∧ (mm_ln ins = 0 ∨ mm_ln ins = len) := by
  unfold mm_at at h
  cases hd : decode M.2.2.1 pc with
  | error e => rw [hd] at h; cases h
  | ok q =>
    obtain ⟨i2, len⟩ := q
    rw [hd] at h
    by_cases hc : mm_ln i2 = 0 ∨ mm_ln i2 = len
    · have h' : (if mm_ln i2 = 0 ∨ mm_ln i2 = len then some i2 else none) = some ins := h
      rw [if_pos hc] at h'
      cases h'
      exact ⟨len, rfl, hc⟩
    · have h' : (if mm_ln i2 = 0 ∨ mm_ln i2 = len then some i2 else none) = some ins := h
      rw [if_neg hc] at h'
      cases h'
theorem mm_ld0 {pc i : Nat} {ls : mm_L} {st : List Value} {h : mm_H} {q : Nat × mm_L × List Value × mm_H} (hx : mm_ld 0 pc ls st h i = some (.inl q)) : ∃ x, mm_lk ls i = some (.int x) ∧ q = (pc, ls, .int x :: st, h) := by
  unfold mm_ld at hx
  cases hl : mm_lk ls i with
  | none => simp [hl] at hx
  | some v => cases v <;> simp [hl] at hx; exact ⟨_, rfl, hx.symm⟩
theorem mm_ld1 {pc i : Nat} {ls : mm_L} {st : List Value} {h : mm_H} {q : Nat × mm_L × List Value × mm_H} (hx : mm_ld 1 pc ls st h i = some (.inl q)) : ∃ x, mm_lk ls i = some (.long x) ∧ q = (pc, ls, .long x :: st, h) := by
  unfold mm_ld at hx
  cases hl : mm_lk ls i with
  | none => simp [hl] at hx
  | some v => cases v <;> simp [hl] at hx; exact ⟨_, rfl, hx.symm⟩
theorem mm_ld2 {pc i : Nat} {ls : mm_L} {st : List Value} {h : mm_H} {q : Nat × mm_L × List Value × mm_H} (hx : mm_ld 2 pc ls st h i = some (.inl q)) : (∃ x, mm_lk ls i = some (.ref x) ∧ q = (pc, ls, .ref x :: st, h)) ∨ (mm_lk ls i = some .null ∧ q = (pc, ls, .null :: st, h)) := by
  unfold mm_ld at hx
  cases hl : mm_lk ls i with
  | none => simp [hl] at hx
  | some v =>
    cases v <;> simp [hl] at hx
    · exact Or.inr ⟨rfl, hx.symm⟩
    · exact Or.inl ⟨_, rfl, hx.symm⟩
theorem mm_sto0 {pc nL i : Nat} {ls : mm_L} {st : List Value} {h : mm_H} {q : Nat × mm_L × List Value × mm_H} (hx : mm_sto 0 nL pc ls st h i = some (.inl q)) : ∃ x r, st = .int x :: r ∧ i < nL ∧ q = (pc, mm_st1 ls i (.int x), r, h) := by
  unfold mm_sto at hx
  cases st with
  | nil => simp at hx
  | cons v r => cases v <;> simp at hx; exact ⟨_, _, rfl, hx.1, hx.2.symm⟩
theorem mm_sto1 {pc nL i : Nat} {ls : mm_L} {st : List Value} {h : mm_H} {q : Nat × mm_L × List Value × mm_H} (hx : mm_sto 1 nL pc ls st h i = some (.inl q)) : ∃ x r, st = .long x :: r ∧ i + 1 < nL ∧ q = (pc, mm_st2 ls i (.long x), r, h) := by
  unfold mm_sto at hx
  cases st with
  | nil => simp at hx
  | cons v r => cases v <;> simp at hx; exact ⟨_, _, rfl, hx.1, hx.2.symm⟩
theorem mm_sto2 {pc nL i : Nat} {ls : mm_L} {st : List Value} {h : mm_H} {q : Nat × mm_L × List Value × mm_H} (hx : mm_sto 2 nL pc ls st h i = some (.inl q)) : (∃ x r, st = .ref x :: r ∧ i < nL ∧ q = (pc, mm_st1 ls i (.ref x), r, h)) ∨ (∃ r, st = .null :: r ∧ i < nL ∧ q = (pc, mm_st1 ls i .null, r, h)) := by
  unfold mm_sto at hx
  cases st with
  | nil => simp at hx
  | cons v r =>
    cases v <;> simp at hx
    · exact Or.inr ⟨_, rfl, hx.1, hx.2.symm⟩
    · exact Or.inl ⟨_, _, rfl, hx.1, hx.2.symm⟩
theorem mm_go_spec {pc : Nat} {off : Int} {ls : mm_L} {st : List Value} {h : mm_H} {q : Nat × mm_L × List Value × mm_H} (hx : mm_go pc off ls st h = some (.inl q)) : 0 ≤ (pc : Int) + off ∧ q = (((pc : Int) + off).toNat, ls, st, h) := by
  unfold mm_go at hx
  by_cases h0 : 0 ≤ (pc : Int) + off
  · rw [if_pos h0] at hx
    cases hx
    exact ⟨h0, rfl⟩
  · rw [if_neg h0] at hx
    cases hx
section MG
variable {p : Program} {l : Launch} {e : Env} {R : Room} {s : State} {m : MethodId} {args : Array Value} {below : List Frame} {meth : Method} {c : Code} {Q : State → Prop} {D : va_G} {B : Nat × Nat} {M : mm_T}
variable {pc cells slots : Nat} {ls : mm_L} {st r : List Value} {h : mm_H}
/-- new T[n][m] of ints -/
theorem mg_mna (C : mm_Ctx p s m args meth c D B M) {n k : Int32} {i : Nat} (hd : decode M.2.2.1 pc = .ok (.multianewarray i 2, 4)) (hk : mm_cls M.1 i = some 9) (h1 : ¬ n < 0) (h2 : ¬ k < 0) (h3 : ¬ 10000 < n.toNatClampNeg) (h4 : ¬ 10000 < k.toNatClampNeg) (hcl : cells + (1 + n.toNatClampNeg) ≤ R.cells) (hsl : slots + (n.toNatClampNeg + n.toNatClampNeg * k.toNatClampNeg) ≤ R.slots) (kk : mm_G p l e R s m args below meth c Q D B M (pc + 4) ls (.ref h.1 :: r) (mm_grid h n.toNatClampNeg k.toNatClampNeg) (cells + (1 + n.toNatClampNeg)) (slots + (n.toNatClampNeg + n.toNatClampNeg * k.toNatClampNeg))) : mm_G p l e R s m args below meth c Q D B M pc ls (.int k :: .int n :: r) h cells slots := sorry
variable {F : Nat} {sc : Option (List Int32)} {ins : Instr} {q : Nat × mm_L × List Value × mm_H}
set_option maxHeartbeats 4000000 in
theorem mm_sound (C : mm_Ctx p s m args meth c D B M) (hsc : ∀ xs, sc = some xs → va_X B.1 xs.length (fun j => xs.getD j 0) s s.heap) (hF : F ≤ R.frames ∧ 40 * F ≤ R.locals) (hat : mm_at M pc = some ins) (hx : mm_x sc F M ins pc ls st h = some (.inl q))
    (hr : cells + (q.2.2.2.1 - h.1) ≤ R.cells ∧ slots + (q.2.2.2.2.1 - h.2.1) ≤ R.slots) (k : ∀ c' s', c' = cells + (q.2.2.2.1 - h.1) → s' = slots + (q.2.2.2.2.1 - h.2.1) → mm_G p l e R s m args below meth c Q D B M q.1 q.2.1 q.2.2.1 q.2.2.2 c' s') : mm_G p l e R s m args below meth c Q D B M pc ls st h cells slots := by
  obtain ⟨len, hd, hlen⟩ := mm_at_dec hat
  have same : ∀ {a b : Nat}, a = a + (b - b) := by intros; omega
  cases ins with
  | iconst n =>
    obtain rfl : 1 = len := hlen.resolve_left (by simp [mm_ln])
    cases hx
    exact mg_iconst C hd (k _ _ same same)
  | bipush n =>
    obtain rfl : 2 = len := hlen.resolve_left (by simp [mm_ln])
    cases hx
    exact mg_bipush C hd (k _ _ same same)
  | sipush n =>
    obtain rfl : 3 = len := hlen.resolve_left (by simp [mm_ln])
    cases hx
    exact mg_sipush C hd (k _ _ same same)
  | lconst n =>
    obtain rfl : 1 = len := hlen.resolve_left (by simp [mm_ln])
    cases hx
    exact mg_lconst C hd (k _ _ same same)
  | aconst_null =>
    obtain rfl : 1 = len := hlen.resolve_left (by simp [mm_ln])
    cases hx
    exact mg_null C hd (k _ _ same same)
  | ldc2_w i =>
    obtain rfl : 3 = len := hlen.resolve_left (by simp [mm_ln])
    simp only [mm_x] at hx
    cases hl : mm_ldc M.1 i with
    | none => rw [hl] at hx; cases hx
    | some x =>
      rw [hl] at hx
      cases hx
      exact mg_ldc C hd hl (k _ _ same same)
  | iload_n i =>
    obtain rfl : 1 = len := hlen.resolve_left (by simp [mm_ln])
    obtain ⟨x, hl, rfl⟩ := mm_ld0 hx
    exact mg_iload_n C hd hl (k _ _ same same)
  | iload i =>
    obtain rfl : 2 = len := hlen.resolve_left (by simp [mm_ln])
    obtain ⟨x, hl, rfl⟩ := mm_ld0 hx
    exact mg_iload C hd hl (k _ _ same same)
  | lload_n i =>
    obtain rfl : 1 = len := hlen.resolve_left (by simp [mm_ln])
    obtain ⟨x, hl, rfl⟩ := mm_ld1 hx
    exact mg_lload_n C hd hl (k _ _ same same)
  | lload i =>
    obtain rfl : 2 = len := hlen.resolve_left (by simp [mm_ln])
    obtain ⟨x, hl, rfl⟩ := mm_ld1 hx
    exact mg_lload C hd hl (k _ _ same same)
  | aload_n i =>
    obtain rfl : 1 = len := hlen.resolve_left (by simp [mm_ln])
    rcases mm_ld2 hx with ⟨x, hl, rfl⟩ | ⟨hl, rfl⟩
    · exact mg_aload_n C hd hl (k _ _ same same)
    · exact mg_aload_nN C hd hl (k _ _ same same)
  | aload i =>
    obtain rfl : 2 = len := hlen.resolve_left (by simp [mm_ln])
    rcases mm_ld2 hx with ⟨x, hl, rfl⟩ | ⟨hl, rfl⟩
    · exact mg_aload C hd hl (k _ _ same same)
    · exact mg_aloadN C hd hl (k _ _ same same)
  | istore_n i =>
    obtain rfl : 1 = len := hlen.resolve_left (by simp [mm_ln])
    obtain ⟨x, r, rfl, hi, rfl⟩ := mm_sto0 hx
    exact mg_istore_n C hd hi (k _ _ same same)
  | istore i =>
    obtain rfl : 2 = len := hlen.resolve_left (by simp [mm_ln])
    obtain ⟨x, r, rfl, hi, rfl⟩ := mm_sto0 hx
    exact mg_istore C hd hi (k _ _ same same)
  | lstore_n i =>
    obtain rfl : 1 = len := hlen.resolve_left (by simp [mm_ln])
    obtain ⟨x, r, rfl, hi, rfl⟩ := mm_sto1 hx
    exact mg_lstore_n C hd hi (k _ _ same same)
  | lstore i =>
    obtain rfl : 2 = len := hlen.resolve_left (by simp [mm_ln])
    obtain ⟨x, r, rfl, hi, rfl⟩ := mm_sto1 hx
    exact mg_lstore C hd hi (k _ _ same same)
  | astore_n i =>
    obtain rfl : 1 = len := hlen.resolve_left (by simp [mm_ln])
    rcases mm_sto2 hx with ⟨x, r, rfl, hi, rfl⟩ | ⟨r, rfl, hi, rfl⟩
    · exact mg_astore_n C hd hi (k _ _ same same)
    · exact mg_astore_nN C hd hi (k _ _ same same)
  | astore i =>
    obtain rfl : 2 = len := hlen.resolve_left (by simp [mm_ln])
    rcases mm_sto2 hx with ⟨x, r, rfl, hi, rfl⟩ | ⟨r, rfl, hi, rfl⟩
    · exact mg_astore C hd hi (k _ _ same same)
    · exact mg_astoreN C hd hi (k _ _ same same)
  | iinc i n =>
    obtain rfl : 3 = len := hlen.resolve_left (by simp [mm_ln])
    simp only [mm_x] at hx
    cases hl : mm_lk ls i with
    | none => simp [hl] at hx
    | some v =>
      cases v <;> simp [hl] at hx
      obtain ⟨hi, rfl⟩ := hx
      exact mg_iinc C hd hl hi (k _ _ same same)
  | dup =>
    obtain rfl : 1 = len := hlen.resolve_left (by simp [mm_ln])
    cases st with
    | nil => simp [mm_x] at hx
    | cons v r =>
      simp [mm_x] at hx
      obtain ⟨hv, rfl⟩ := hx
      exact mg_dup C hd hv (k _ _ same same)
  | pop =>
    obtain rfl : 1 = len := hlen.resolve_left (by simp [mm_ln])
    cases st with
    | nil => simp [mm_x] at hx
    | cons v r =>
      simp [mm_x] at hx
      obtain ⟨hv, rfl⟩ := hx
      exact mg_pop C hd hv (k _ _ same same)
  | dup_x1 =>
    obtain rfl : 1 = len := hlen.resolve_left (by simp [mm_ln])
    match st, hx with
    | v :: u :: r, hx =>
      simp [mm_x] at hx
      obtain ⟨⟨hv, hu⟩, rfl⟩ := hx
      exact mg_dup_x1 C hd hv hu (k _ _ same same)
    | [], hx => simp [mm_x] at hx
    | [_], hx => simp [mm_x] at hx
  | dup2 =>
    obtain rfl : 1 = len := hlen.resolve_left (by simp [mm_ln])
    match st, hx with
    | v :: u :: r, hx =>
      simp [mm_x] at hx
      obtain ⟨⟨hv, hu⟩, rfl⟩ := hx
      exact mg_dup2 C hd hv hu (k _ _ same same)
    | [], hx => simp [mm_x] at hx
    | [_], hx => simp [mm_x] at hx
  | i2l =>
    obtain rfl : 1 = len := hlen.resolve_left (by simp [mm_ln])
    simp only [mm_x] at hx
    split at hx
    · cases hx
      exact mg_i2l C hd (k _ _ same same)
    · cases hx
  | l2i =>
    obtain rfl : 1 = len := hlen.resolve_left (by simp [mm_ln])
    simp only [mm_x] at hx
    split at hx
    · cases hx
      exact mg_l2i C hd (k _ _ same same)
    · cases hx
  | lshl =>
    obtain rfl : 1 = len := hlen.resolve_left (by simp [mm_ln])
    simp only [mm_x] at hx
    split at hx
    · cases hx
      exact mg_lshl C hd (k _ _ same same)
    · cases hx
  | lcmp =>
    obtain rfl : 1 = len := hlen.resolve_left (by simp [mm_ln])
    simp only [mm_x] at hx
    split at hx
    · cases hx
      exact mg_lcmp C hd (k _ _ same same)
    · cases hx
  | ifCond cd off =>
    obtain rfl : 3 = len := hlen.resolve_left (by simp [mm_ln])
    simp only [mm_x] at hx
    split at hx
    · rename_i x r
      by_cases hc : mm_cmp cd x 0 = true
      · rw [if_pos hc] at hx
        obtain ⟨h0, rfl⟩ := mm_go_spec hx
        exact mg_if C hd (fun _ => h0) (fun _ => k _ _ same same) (fun z => absurd hc z)
      · rw [if_neg hc] at hx
        cases hx
        exact mg_if C hd (fun z => absurd z hc) (fun z => absurd z hc) (fun _ => k _ _ same same)
    · cases hx
  | if_icmp cd off =>
    obtain rfl : 3 = len := hlen.resolve_left (by simp [mm_ln])
    simp only [mm_x] at hx
    split at hx
    · rename_i y x r
      by_cases hc : mm_cmp cd x y = true
      · rw [if_pos hc] at hx
        obtain ⟨h0, rfl⟩ := mm_go_spec hx
        exact mg_icmp C hd (fun _ => h0) (fun _ => k _ _ same same) (fun z => absurd hc z)
      · rw [if_neg hc] at hx
        cases hx
        exact mg_icmp C hd (fun z => absurd z hc) (fun z => absurd z hc) (fun _ => k _ _ same same)
    · cases hx
  | ifnonnull off =>
    obtain rfl : 3 = len := hlen.resolve_left (by simp [mm_ln])
    simp only [mm_x] at hx
    split at hx
    · cases hx
      exact mg_nonnullN C hd (k _ _ same same)
    · obtain ⟨h0, rfl⟩ := mm_go_spec hx
      exact mg_nonnull C hd h0 (k _ _ same same)
    · cases hx
  | goto off =>
    obtain rfl : 3 = len := hlen.resolve_left (by simp [mm_ln])
    obtain ⟨h0, rfl⟩ := mm_go_spec hx
    exact mg_goto C hd h0 (k _ _ same same)
  | tableswitch d lo hi offs =>
    simp only [mm_x] at hx
    split at hx
    · rename_i x r
      by_cases hc : x.toInt < lo ∨ hi < x.toInt
      · rw [if_pos hc] at hx
        obtain ⟨h0, rfl⟩ := mm_go_spec hx
        exact mg_tabOut C hd hc h0 (k _ _ same same)
      · rw [if_neg hc] at hx
        cases ho : offs[(x.toInt - lo).toNat]? with
        | none => rw [ho] at hx; cases hx
        | some o =>
          rw [ho] at hx
          obtain ⟨h0, rfl⟩ := mm_go_spec hx
          exact mg_tabIn C hd hc ho h0 (k _ _ same same)
    · cases hx
  | getfield i =>
    obtain rfl : 3 = len := hlen.resolve_left (by simp [mm_ln])
    simp only [mm_x] at hx
    split at hx
    · rename_i a r ci f hf
      split at hx
      · rename_i c9 hc
        obtain ⟨ci2, fs⟩ := c9
        split at hx
        · rename_i he
          split at hx
          · rename_i v hv
            cases hx
            have he' : ci2 = ci := he
            subst he'
            exact mg_get C hd hf hc hv (k _ _ same same)
          · cases hx
        · cases hx
      · cases hx
    · cases hx
  | putfield i =>
    obtain rfl : 3 = len := hlen.resolve_left (by simp [mm_ln])
    simp only [mm_x] at hx
    split at hx
    · rename_i v a r ci f hf
      split at hx
      · rename_i c9 hc
        obtain ⟨ci2, fs⟩ := c9
        split at hx
        · rename_i he
          obtain ⟨he', g1, g2, g3, g4⟩ := he
          have he' : ci2 = ci := he'
          subst he'
          cases hx
          exact mg_put C hd hf hc g1 g2 g3 g4 (k _ _ same same)
        · cases hx
      · cases hx
    · cases hx
  | iaload =>
    obtain rfl : 1 = len := hlen.resolve_left (by simp [mm_ln])
    simp only [mm_x] at hx
    split at hx
    · rename_i j a r
      split at hx
      · rename_i ha
        subst ha
        split at hx
        · rename_i xs
          split at hx
          · cases hx
          · rename_i hj
            split at hx
            · rename_i x hv
              cases hx
              exact mg_sld C (hsc xs rfl) hd hj hv (k _ _ same same)
            · cases hx
        · cases hx
      · split at hx
        · rename_i c9 hc
          obtain ⟨ci2, fs⟩ := c9
          split at hx
          · rename_i he
            have he' : ci2 = 5 := he
            subst he'
            split at hx
            · rename_i v hv
              cases hx
              exact mg_iald C hd hc hv (k _ _ same same)
            · cases hx
          · cases hx
        · cases hx
    · cases hx
  | laload =>
    obtain rfl : 1 = len := hlen.resolve_left (by simp [mm_ln])
    simp only [mm_x] at hx
    split at hx
    · split at hx
      · rename_i c9 hc
        obtain ⟨ci2, fs⟩ := c9
        split at hx
        · rename_i he
          have he' : ci2 = 6 := he
          subst he'
          split at hx
          · rename_i v hv
            cases hx
            exact mg_lald C hd hc hv (k _ _ same same)
          · cases hx
        · cases hx
      · cases hx
    · cases hx
  | aaload =>
    obtain rfl : 1 = len := hlen.resolve_left (by simp [mm_ln])
    simp only [mm_x] at hx
    split at hx
    · split at hx
      · rename_i c9 hc
        obtain ⟨ci2, fs⟩ := c9
        split at hx
        · rename_i he
          split at hx
          · rename_i v hv
            cases hx
            exact mg_aald C hd he hc hv (k _ _ same same)
          · cases hx
        · cases hx
      · cases hx
    · cases hx
  | iastore =>
    obtain rfl : 1 = len := hlen.resolve_left (by simp [mm_ln])
    simp only [mm_x] at hx
    split at hx
    · split at hx
      · rename_i c9 hc
        obtain ⟨ci2, fs⟩ := c9
        split at hx
        · rename_i he
          obtain ⟨he', g1, g2⟩ := he
          have he' : ci2 = 5 := he'
          subst he'
          cases hx
          exact mg_iast C hd hc g1 g2 (k _ _ same same)
        · cases hx
      · cases hx
    · cases hx
  | lastore =>
    obtain rfl : 1 = len := hlen.resolve_left (by simp [mm_ln])
    simp only [mm_x] at hx
    split at hx
    · split at hx
      · rename_i c9 hc
        obtain ⟨ci2, fs⟩ := c9
        split at hx
        · rename_i he
          obtain ⟨he', g1, g2⟩ := he
          have he' : ci2 = 6 := he'
          subst he'
          cases hx
          exact mg_last C hd hc g1 g2 (k _ _ same same)
        · cases hx
      · cases hx
    · cases hx
  | aastore =>
    obtain rfl : 1 = len := hlen.resolve_left (by simp [mm_ln])
    simp only [mm_x] at hx
    split at hx
    · rename_i v j a r
      split at hx
      · rename_i c9 hc
        obtain ⟨ci2, fs⟩ := c9
        split at hx
        · rename_i he
          obtain ⟨he, g1, g2⟩ := he
          cases hx
          have kk := k _ _ (same (a := cells) (b := h.1)) (same (a := slots) (b := h.2.1))
          have he2 : (ci2 = 7 ∧ mm_okv h 0 v = true) ∨ (ci2 = 8 ∧ mm_okv h 1 v = true) := he
          cases v with
          | null => exact mg_aastN C hd (by rcases he2 with ⟨q, -⟩ | ⟨q, -⟩ <;> simp [q]) hc g1 g2 kk
          | ref b =>
            have key : ∀ z, ci2 = 7 + z → (z = 0 ∨ z = 1) → mm_okv h z (.ref b) = true → mm_G p l e R s m args below meth c Q D B M pc ls (.ref b :: .int j :: .ref a :: r) h cells slots := by
              intro z hz hz1 hok
              subst hz
              simp only [mm_okv] at hok
              split at hok
              · rename_i c8 hb8
                obtain ⟨ci8, us⟩ := c8
                have e8 : ci8 = z := by simpa using hok
                subst e8
                exact mg_aast C hd hz1 hc hb8 g1 g2 kk
              · cases hok
            rcases he2 with ⟨q1, q2⟩ | ⟨q1, q2⟩
            · exact key 0 q1 (Or.inl rfl) q2
            · exact key 1 q1 (Or.inr rfl) q2
          | _ => rcases he2 with ⟨q1, q2⟩ | ⟨q1, q2⟩ <;> cases q2
        · cases hx
      · cases hx
    · cases hx
  | arraylength =>
    obtain rfl : 1 = len := hlen.resolve_left (by simp [mm_ln])
    simp only [mm_x] at hx
    split at hx
    · rename_i a r xs
      split at hx
      · rename_i ha
        subst ha
        cases hx
        exact mg_slen C (hsc xs rfl) hd (k _ _ same same)
      · cases hx
    · cases hx
  | newarray ty =>
    obtain rfl : 2 = len := hlen.resolve_left (by simp [mm_ln])
    simp only [mm_x] at hx
    split at hx
    · rename_i n r
      split at hx
      · cases hx
      · rename_i hn
        cases hx
        have hn2 : (mm_new h (5, List.replicate n.toNatClampNeg (.int 0))).2.1 = h.2.1 + n.toNatClampNeg := by simp [mm_new]
        have hn1 : (mm_new h (5, List.replicate n.toNatClampNeg (.int 0))).1 = h.1 + 1 := rfl
        dsimp only at hr k
        rw [hn1, hn2] at hr k
        exact mg_newI C hd (fun z => hn (Or.inl z)) (fun z => hn (Or.inr z)) (by omega) (by omega) (k _ _ (by omega) (by omega))
    · rename_i n r
      split at hx
      · cases hx
      · rename_i hn
        cases hx
        have hn2 : (mm_new h (6, List.replicate n.toNatClampNeg (.long 0))).2.1 = h.2.1 + n.toNatClampNeg := by simp [mm_new]
        have hn1 : (mm_new h (6, List.replicate n.toNatClampNeg (.long 0))).1 = h.1 + 1 := rfl
        dsimp only at hr k
        rw [hn1, hn2] at hr k
        exact mg_newJ C hd (fun z => hn (Or.inl z)) (fun z => hn (Or.inr z)) (by omega) (by omega) (k _ _ (by omega) (by omega))
    · cases hx
  | anewarray i =>
    obtain rfl : 3 = len := hlen.resolve_left (by simp [mm_ln])
    simp only [mm_x] at hx
    split at hx
    · rename_i n r z hz
      split at hx
      · cases hx
      · rename_i hn
        cases hx
        have hn2 : (mm_new h (7 + z, List.replicate n.toNatClampNeg .null)).2.1 = h.2.1 + n.toNatClampNeg := by simp [mm_new]
        have hn1 : (mm_new h (7 + z, List.replicate n.toNatClampNeg .null)).1 = h.1 + 1 := rfl
        dsimp only at hr k
        rw [hn1, hn2] at hr k
        exact mg_newA C hd hz (by omega) (fun z => hn (Or.inl z)) (fun z => hn (Or.inr (Or.inl z))) (by omega) (by omega) (k _ _ (by omega) (by omega))
    · cases hx
  | multianewarray i d =>
    obtain rfl : 4 = len := hlen.resolve_left (by simp [mm_ln])
    simp only [mm_x] at hx
    split at hx
    · rename_i kk n r hz
      split at hx
      · cases hx
      · rename_i hn
        cases hx
        have hn2 : (mm_grid h n.toNatClampNeg kk.toNatClampNeg).2.1 = h.2.1 + (n.toNatClampNeg + n.toNatClampNeg * kk.toNatClampNeg) := rfl
        have hn1 : (mm_grid h n.toNatClampNeg kk.toNatClampNeg).1 = h.1 + 1 + n.toNatClampNeg := rfl
        dsimp only at hr k
        rw [hn1, hn2] at hr k
        have hd2 : d = 2 := Classical.not_not.mp (fun z => hn (Or.inr (Or.inr (Or.inr (Or.inr z)))))
        subst hd2
        exact mg_mna C hd hz (fun z => hn (Or.inl z)) (fun z => hn (Or.inr (Or.inl z))) (fun z => hn (Or.inr (Or.inr (Or.inl z)))) (fun z => hn (Or.inr (Or.inr (Or.inr (Or.inl z))))) (by omega) (by omega) (k _ _ (by omega) (by omega))
    · cases hx
  | new i =>
    obtain rfl : 3 = len := hlen.resolve_left (by simp [mm_ln])
    simp only [mm_x] at hx
    split at hx
    · rename_i z hz
      split at hx
      · cases hx
      · rename_i hn
        cases hx
        have hn2 : (mm_new h (z, mm_df z)).2.1 = h.2.1 + (mm_df z).length := rfl
        have hn1 : (mm_new h (z, mm_df z)).1 = h.1 + 1 := rfl
        dsimp only at hr k
        rw [hn1, hn2] at hr k
        exact mg_new C hd hz (by omega) (by omega) (by omega) (k _ _ (by omega) (by omega))
    · cases hx
  | invokestatic i =>
    obtain rfl : 3 = len := hlen.resolve_left (by simp [mm_ln])
    simp only [mm_x] at hx
    split at hx
    · rename_i z hz
      split at hx
      · split at hx
        · rename_i hn
          cases hx
          have h9 : cells + (h.1 - h.1) ≤ R.cells ∧ slots + (h.2.1 - h.2.1) ≤ R.slots := hr
          exact mg_maxI C hd hz (by omega) (by omega) hn.2 (by omega) (by omega) (k _ _ same same)
        · cases hx
      · split at hx
        · rename_i hn
          cases hx
          have h9 : cells + (h.1 - h.1) ≤ R.cells ∧ slots + (h.2.1 - h.2.1) ≤ R.slots := hr
          exact mg_maxJ C hd hz (by omega) (by omega) hn.2 (by omega) (by omega) (k _ _ same same)
        · cases hx
      · cases hx
    · split at hx
      · unfold mm_call at hx
        split at hx <;> cases hx
      · cases hx
  | invokevirtual i =>
    simp only [mm_x] at hx
    split at hx
    · split at hx
      · unfold mm_call at hx
        split at hx <;> cases hx
      · cases hx
    · cases hx
  | invokespecial i =>
    obtain rfl : 3 = len := hlen.resolve_left (by simp [mm_ln])
    simp only [mm_x] at hx
    split at hx
    · rename_i ho
      split at hx
      · split at hx
        · rename_i hn
          cases hx
          exact mg_obj C hd (by simpa using ho) (by omega) (by omega) hn.2 (k _ _ same same)
        · cases hx
      · cases hx
    · split at hx
      · split at hx
        · unfold mm_call at hx
          split at hx <;> cases hx
        · cases hx
      · cases hx
  | ireturn =>
    simp only [mm_x] at hx
    split at hx
    · split at hx <;> cases hx
    · cases hx
  | lreturn =>
    simp only [mm_x] at hx
    split at hx
    · split at hx <;> cases hx
    · cases hx
  | return_ =>
    simp only [mm_x] at hx
    split at hx
    · split at hx <;> cases hx
    · cases hx
  | iadd =>
    obtain rfl : 1 = len := hlen.resolve_left (by simp [mm_ln])
    simp only [mm_x, mm_bi, mm_bl] at hx
    split at hx
    · cases hx
      exact mg_iadd C hd (k _ _ same same)
    · cases hx
    · cases hx
  | isub =>
    obtain rfl : 1 = len := hlen.resolve_left (by simp [mm_ln])
    simp only [mm_x, mm_bi, mm_bl] at hx
    split at hx
    · cases hx
      exact mg_isub C hd (k _ _ same same)
    · cases hx
    · cases hx
  | imul =>
    obtain rfl : 1 = len := hlen.resolve_left (by simp [mm_ln])
    simp only [mm_x, mm_bi, mm_bl] at hx
    split at hx
    · cases hx
      exact mg_imul C hd (k _ _ same same)
    · cases hx
    · cases hx
  | iand =>
    obtain rfl : 1 = len := hlen.resolve_left (by simp [mm_ln])
    simp only [mm_x, mm_bi, mm_bl] at hx
    split at hx
    · cases hx
      exact mg_iand C hd (k _ _ same same)
    · cases hx
    · cases hx
  | irem =>
    obtain rfl : 1 = len := hlen.resolve_left (by simp [mm_ln])
    simp only [mm_x, mm_bi, mm_bl] at hx
    split at hx
    · rename_i y x r
      by_cases hy : y = 0
      · rw [if_pos hy] at hx
        cases hx
      · rw [if_neg hy] at hx
        cases hx
        exact mg_irem C hd hy (k _ _ same same)
    · cases hx
    · cases hx
  | ladd =>
    obtain rfl : 1 = len := hlen.resolve_left (by simp [mm_ln])
    simp only [mm_x, mm_bi, mm_bl] at hx
    split at hx
    · cases hx
    · cases hx
      exact mg_ladd C hd (k _ _ same same)
    · cases hx
  | land =>
    obtain rfl : 1 = len := hlen.resolve_left (by simp [mm_ln])
    simp only [mm_x, mm_bi, mm_bl] at hx
    split at hx
    · cases hx
    · cases hx
      exact mg_land C hd (k _ _ same same)
    · cases hx
  | lor =>
    obtain rfl : 1 = len := hlen.resolve_left (by simp [mm_ln])
    simp only [mm_x, mm_bi, mm_bl] at hx
    split at hx
    · cases hx
    · cases hx
      exact mg_lor C hd (k _ _ same same)
    · cases hx
  | ldiv =>
    obtain rfl : 1 = len := hlen.resolve_left (by simp [mm_ln])
    simp only [mm_x, mm_bi, mm_bl] at hx
    split at hx
    · cases hx
    · rename_i y x r
      by_cases hy : y = 0
      · rw [if_pos hy] at hx
        cases hx
      · rw [if_neg hy] at hx
        cases hx
        exact mg_ldiv C hd hy (k _ _ same same)
    · cases hx
  | _ =>
    simp only [mm_x, mm_bi, mm_bl] at hx
    split at hx <;> cases hx
end MG
end
section
/-! A RUN OF THE MINI-MACHINE IS A RUN OF THE MACHINE -/
theorem mm_ld_h {ty pc i : Nat} {ls : mm_L} {st : List Value} {h : mm_H} {q : Nat × mm_L × List Value × mm_H} (hx : mm_ld ty pc ls st h i = some (.inl q)) : q.2.2.2 = h := by
  unfold mm_ld at hx
  split at hx <;> cases hx <;> rfl
theorem mm_sto_h {ty nL pc i : Nat} {ls : mm_L} {st : List Value} {h : mm_H} {q : Nat × mm_L × List Value × mm_H} (hx : mm_sto ty nL pc ls st h i = some (.inl q)) : q.2.2.2 = h := by
  unfold mm_sto at hx
  split at hx <;> first | (split at hx <;> cases hx <;> rfl) | cases hx
theorem mm_go_h {pc : Nat} {off : Int} {ls : mm_L} {st : List Value} {h : mm_H} {q : Nat × mm_L × List Value × mm_H} (hx : mm_go pc off ls st h = some (.inl q)) : q.2.2.2 = h := by
  obtain ⟨-, rfl⟩ := mm_go_spec hx
  rfl
theorem mm_le_of_eq {h h' : mm_H} (e : h' = h) : h.1 ≤ h'.1 ∧ h.2.1 ≤ h'.2.1 := by rw [e]; exact ⟨Nat.le_refl _, Nat.le_refl _⟩
theorem mm_call_inl {t : mm_T} {n : Nat} {st : List Value} {q : Nat × mm_L × List Value × mm_H} (hx : mm_call t n st = some (.inl q)) : False := by
  unfold mm_call at hx
  split at hx <;> cases hx
set_option maxHeartbeats 4000000 in
theorem mm_x_mono {sc : Option (List Int32)} {F pc : Nat} {M : mm_T} {ins : Instr} {ls : mm_L} {st : List Value} {h : mm_H} {q : Nat × mm_L × List Value × mm_H} (hx : mm_x sc F M ins pc ls st h = some (.inl q)) : h.1 ≤ q.2.2.2.1 ∧ h.2.1 ≤ q.2.2.2.2.1 := by
  cases ins <;> simp only [mm_x] at hx <;> first
    | exact mm_le_of_eq (mm_ld_h hx)
    | exact mm_le_of_eq (mm_sto_h hx)
    | exact mm_le_of_eq (mm_go_h hx)
    | (cases hx; exact ⟨Nat.le_refl _, Nat.le_refl _⟩)
    | ((repeat' split at hx) <;> first
        | exact mm_le_of_eq (mm_go_h hx)
        | exact (mm_call_inl hx).elim
        | (cases hx; exact ⟨Nat.le_refl _, Nat.le_refl _⟩)
        | (cases hx; exact ⟨Nat.le_succ _, Nat.le_add_right _ _⟩)
        | (cases hx; exact ⟨by show h.1 ≤ h.1 + 1 + _; omega, Nat.le_add_right _ _⟩)
        | cases hx)
theorem mm_run_mono : ∀ {n : Nat} {sc : Option (List Int32)} {F pc : Nat} {M : mm_T} {ls : mm_L} {st : List Value} {h : mm_H} {r : Option Value} {h' : mm_H}, mm_run n sc F M pc ls st h = some (r, h') → h.1 ≤ h'.1 ∧ h.2.1 ≤ h'.2.1 := by
  intro n
  induction n with
  | zero => intro sc F pc M ls st h r h' hx; cases hx
  | succ n ih =>
    intro sc F pc M ls st h r h' hx
    unfold mm_run at hx
    split at hx
    · cases hx
    · split at hx
      · cases hx
      · rename_i hq
        have h1 := mm_x_mono hq
        have h2 := ih hx
        exact ⟨Nat.le_trans h1.1 h2.1, Nat.le_trans h1.2 h2.2⟩
      · split at hx
        · cases hx
        · split at hx
          · cases hx
          · rename_i hc
            have h1 := ih hc
            have h2 := ih hx
            exact ⟨Nat.le_trans h1.1 h2.1, Nat.le_trans h1.2 h2.2⟩
      · cases hx
        exact ⟨Nat.le_refl _, Nat.le_refl _⟩
/-- a return instruction, and what it returns -/
def mm_Ret (M : mm_T) (pc : Nat) (r : Option Value) : Prop :=
  (∃ v, r = some (.int v) ∧ decode M.2.2.1 pc = .ok (.ireturn, 1) ∧ (M.2.2.2.2.1 = some .int ∨ (M.2.2.2.2.1 = some .boolean ∧ (v = 0 ∨ v = 1)))) ∨ (∃ v, r = some (.long v) ∧ decode M.2.2.1 pc = .ok (.lreturn, 1) ∧ M.2.2.2.2.1 = some .long) ∨ (r = none ∧ decode M.2.2.1 pc = .ok (.return_, 1) ∧ M.2.2.2.2.1 = none)
theorem mm_call_inr {t : mm_T} {n : Nat} {st : List Value} {r : Option Value} (hx : mm_call t n st = some (.inr (.inr r))) : False := by
  unfold mm_call at hx
  split at hx <;> cases hx
theorem mm_ld_r {ty pc i : Nat} {ls : mm_L} {st : List Value} {h : mm_H} {q} (hx : mm_ld ty pc ls st h i = some (.inr q)) : False := by
  unfold mm_ld at hx
  split at hx <;> cases hx
theorem mm_sto_r {ty nL pc i : Nat} {ls : mm_L} {st : List Value} {h : mm_H} {q} (hx : mm_sto ty nL pc ls st h i = some (.inr q)) : False := by
  unfold mm_sto at hx
  split at hx <;> first | (split at hx <;> cases hx) | cases hx
theorem mm_go_r {pc : Nat} {off : Int} {ls : mm_L} {st : List Value} {h : mm_H} {q} (hx : mm_go pc off ls st h = some (.inr q)) : False := by
  unfold mm_go at hx
  split at hx <;> cases hx
set_option maxHeartbeats 4000000 in
theorem mm_x_ret {sc : Option (List Int32)} {F pc : Nat} {M : mm_T} {ins : Instr} {ls : mm_L} {st : List Value} {h : mm_H} {r : Option Value} (hat : mm_at M pc = some ins) (hx : mm_x sc F M ins pc ls st h = some (.inr (.inr r))) : mm_Ret M pc r ∧ st = r.toList := by
  obtain ⟨len, hd, hlen⟩ := mm_at_dec hat
  cases ins with
  | ireturn =>
    obtain rfl : 1 = len := hlen.resolve_left (by simp [mm_ln])
    simp only [mm_x] at hx
    split at hx
    · split at hx
      · rename_i hc
        cases hx
        exact ⟨Or.inl ⟨_, rfl, hd, hc⟩, rfl⟩
      · cases hx
    · cases hx
  | lreturn =>
    obtain rfl : 1 = len := hlen.resolve_left (by simp [mm_ln])
    simp only [mm_x] at hx
    split at hx
    · split at hx
      · rename_i hc
        cases hx
        exact ⟨Or.inr (Or.inl ⟨_, rfl, hd, hc⟩), rfl⟩
      · cases hx
    · cases hx
  | return_ =>
    obtain rfl : 1 = len := hlen.resolve_left (by simp [mm_ln])
    simp only [mm_x] at hx
    split at hx
    · split at hx
      · rename_i hc
        cases hx
        exact ⟨Or.inr (Or.inr ⟨rfl, hd, hc⟩), rfl⟩
      · cases hx
    · cases hx
  | _ =>
    simp only [mm_x] at hx
    first
      | exact (mm_ld_r hx).elim
      | exact (mm_sto_r hx).elim
      | exact (mm_go_r hx).elim
      | (cases hx; done)
      | ((repeat' split at hx) <;> first
        | exact (mm_go_r hx).elim
        | exact (mm_call_inr hx).elim
        | cases hx)
/-- what a call of the mini-machine is -/
def mm_Call (M : mm_T) (ins : Instr) (st : List Value) (h : mm_H) (t : mm_T) (as rest : List Value) : Prop :=
  st = as.reverse ++ rest ∧ (rest.map fun v => v.category).sum ≤ 8 ∧ (as.map fun v => v.category).sum ≤ t.2.2.2.1 ∧
  ∃ i k, mm_mth M.1 i = some (k, t) ∧ ((k = 0 ∧ ins = .invokestatic i ∧ as.length = t.2.2.2.2.2) ∨ ((k = 1 ∧ ins = .invokevirtual i ∨ (k = 2 ∨ k = 3) ∧ ins = .invokespecial i) ∧ ∃ a As fs, as = .ref a :: As ∧ As.length = t.2.2.2.2.2 ∧ h.2.2 a = some (t.1, fs)))
theorem mm_call_spec {t u : mm_T} {n : Nat} {st as rest : List Value} (hx : mm_call t n st = some (.inr (.inl (u, as, rest)))) : u = t ∧ n ≤ st.length ∧ as = (st.take n).reverse ∧ st = as.reverse ++ rest ∧ (rest.map fun v => v.category).sum ≤ 8 ∧ (as.map fun v => v.category).sum ≤ t.2.2.2.1 := by
  unfold mm_call at hx
  split at hx
  · rename_i hc
    cases hx
    refine ⟨rfl, hc.1, rfl, by rw [List.reverse_reverse, List.take_append_drop], hc.2.1, ?_⟩
    rw [List.map_reverse, List.sum_reverse]
    exact hc.2.2
  · cases hx
theorem mm_this_spec {h : mm_H} {n k : Nat} {st : List Value} (hx : mm_this h n k st = true) : ∃ a fs, st[n]? = some (.ref a) ∧ h.2.2 a = some (k, fs) := by
  unfold mm_this at hx
  split at hx
  · rename_i a ha
    split at hx
    · rename_i c hc
      obtain ⟨ci, fs⟩ := c
      have e : ci = k := by simpa using hx
      subst e
      exact ⟨a, fs, ha, hc⟩
    · cases hx
  · cases hx
theorem mm_take_this {st : List Value} {n : Nat} {v : Value} (h : st[n]? = some v) : (st.take (n + 1)).reverse = v :: (st.take n).reverse := by
  rw [List.take_add_one, h]
  simp
set_option maxHeartbeats 4000000 in
theorem mm_x_call {sc : Option (List Int32)} {F pc : Nat} {M : mm_T} {ins : Instr} {ls : mm_L} {st : List Value} {h : mm_H} {t : mm_T} {as rest : List Value} (hx : mm_x sc F M ins pc ls st h = some (.inr (.inl (t, as, rest)))) : mm_Call M ins st h t as rest := by
  cases ins with
  | invokestatic i =>
    simp only [mm_x] at hx
    split at hx
    · split at hx
      · split at hx <;> cases hx
      · split at hx <;> cases hx
      · cases hx
    · split at hx
      · rename_i u hm
        obtain ⟨rfl, h1, h2, h3, h4, h5⟩ := mm_call_spec hx
        exact ⟨h3, h4, h5, i, 0, hm, Or.inl ⟨rfl, rfl, by rw [h2, List.length_reverse, List.length_take]; omega⟩⟩
      · cases hx
  | invokevirtual i =>
    simp only [mm_x] at hx
    split at hx
    · rename_i u hm
      split at hx
      · rename_i ht
        obtain ⟨rfl, h1, h2, h3, h4, h5⟩ := mm_call_spec hx
        obtain ⟨a, fs, ha, hc⟩ := mm_this_spec ht
        exact ⟨h3, h4, h5, i, 1, hm, Or.inr ⟨Or.inl ⟨rfl, rfl⟩, a, _, fs, h2.trans (mm_take_this ha), by rw [List.length_reverse, List.length_take]; omega, hc⟩⟩
      · cases hx
    · cases hx
  | invokespecial i =>
    simp only [mm_x] at hx
    split at hx
    · split at hx
      · split at hx <;> cases hx
      · cases hx
    · split at hx
      · rename_i k u hm
        split at hx
        · rename_i ht
          obtain ⟨rfl, h1, h2, h3, h4, h5⟩ := mm_call_spec hx
          obtain ⟨a, fs, ha, hc⟩ := mm_this_spec ht.2
          exact ⟨h3, h4, h5, i, k, hm, Or.inr ⟨Or.inr ⟨ht.1, rfl⟩, a, _, fs, h2.trans (mm_take_this ha), by rw [List.length_reverse, List.length_take]; omega, hc⟩⟩
        · cases hx
      · cases hx
  | _ =>
    simp only [mm_x] at hx
    first
      | exact (mm_ld_r hx).elim
      | exact (mm_sto_r hx).elim
      | exact (mm_go_r hx).elim
      | (cases hx; done)
      | ((repeat' split at hx) <;> first
        | exact (mm_go_r hx).elim
        | cases hx)
theorem mm_mp_args (B : Nat × Nat) : ∀ (as : List Value) (i : Nat), mm_mp B (lv_args i as) = lv_args i (as.map (mm_sh B))
  | [], _ => rfl
  | v :: vs, i => by
    show (i, mm_sh B v) :: mm_mp B (lv_args (if v.category = 2 then i + 2 else i + 1) vs) = (i, mm_sh B v) :: lv_args (if (mm_sh B v).category = 2 then i + 2 else i + 1) (vs.map (mm_sh B))
    rw [mm_mp_args B vs, mm_sh_cat]
theorem mm_sl_len (B : Nat × Nat) : ∀ (as : List Value), (lg_sl (as.map (mm_sh B))).length = (as.map fun v => v.category).sum
  | [] => rfl
  | v :: vs => by
    have ih := mm_sl_len B vs
    unfold lg_sl at ih ⊢
    rw [List.map_cons, List.flatMap_cons, List.length_append, ih, List.map_cons, List.sum_cons, mm_sh_cat]
    congr 1
    rcases lv_cat v with h | h <;> simp [h]
def mm_Pc (D : va_G) (B : Nat × Nat) (as : List Value) (h : mm_H) : Array Value → State → Prop := fun v U => v = (as.map (mm_sh B)).toArray ∧ mm_HP D B h U.heap ∧ mm_WF D U
def mm_Qc (D : va_G) (B : Nat × Nat) (r : Option Value) (h : mm_H) : Array Value → State → Outcome → State → Prop := fun _ st o t => o = .returned (r.map (mm_sh B)) ∧ mm_HP D B h t.heap ∧ va_F (fun q => B.2 ≤ q) st t
def mm_ws (t : mm_T) : List Cond := .code t.2.1 t.2.2.1 t.2.2.2.1 t.2.2.2.2.1 :: mm_Ws
def mm_rm (F k n : Nat) : Room := { frames := F, cells := k, slots := n, locals := 40 * F }
section MG
variable {p : Program} {l : Launch} {e : Env} {R : Room} {s : State} {m : MethodId} {args : Array Value} {below : List Frame} {meth : Method} {c : Code} {Q : State → Prop} {D : va_G} {B : Nat × Nat} {M : mm_T}
variable {pc cells slots : Nat} {ls : mm_L} {st r : List Value} {h : mm_H}
theorem mm_callK {H : Heap} {locs : List Loc} {mc ms : Nat} {lsA : Array Slot} {st0 rest' : List Value} {a : Array Value} {rv : Option Value} {h' : mm_H} (hr : va_Run p l e R s m args below meth c H locs cells slots mc ms (F0 m pc lsA st0) rest' (mm_Qc D B rv h' a) (fun q => B.2 ≤ q)) (hS : va_S (fun q => B.2 ≤ q) s.heap H locs)
    (kk : ∀ (H1 : Heap) (locs1 : List Loc), mm_HP D B h' H1 → va_S (fun q => B.2 ≤ q) s.heap H1 locs1 → W p l e R s m args below meth c H1 locs1 (cells + mc) (slots + ms) Q (F0 m (pc + 3) lsA ((rv.map (mm_sh B)).toList ++ rest'))) : W p l e R s m args below meth c H locs cells slots Q (F0 m pc lsA st0) := by
  intro T hT X
  obtain ⟨v, st₀, t, T', L, h0, X', hL, e1, e2, ⟨hv, hP, hz, hk⟩, st⟩ := hr T hT X
  cases hv
  rw [h0] at hz hk
  obtain ⟨t2, a1, b1⟩ := kk T'.heap (locs ++ L) (by rw [e1]; exact hP) ⟨Nat.le_trans hS.1 (by rw [e1]; exact hz), fun q h1 h2 => by rw [e1, hk q (Nat.lt_of_lt_of_le h1 hS.1) h2]; exact hS.2.1 q h1 h2, fun q hq => by
      rcases List.mem_append.mp hq with h | h
      · exact hS.2.2 q h
      · exact hL q h⟩ T' rfl X'
  exact ⟨t2, st t2 a1, b1⟩
end MG
/-- the simulation, for runs of n fuel -/
def mm_Sim (l : Launch) (D : va_G) (B : Nat × Nat) (n : Nat) : Prop :=
  ∀ (p : Program) (e : Env) (R : Room) (s : State) (m : MethodId) (args : Array Value) (below : List Frame) (meth : Method) (c : Code) (Q : State → Prop) (M : mm_T) (sc : Option (List Int32)) (F pc : Nat) (ls : mm_L) (st : List Value) (h h' : mm_H) (r : Option Value) (cells slots : Nat),
    mm_Ctx p s m args meth c D B M → (∀ xs, sc = some xs → va_X B.1 xs.length (fun j => xs.getD j 0) s s.heap) → (F ≤ R.frames ∧ 40 * F ≤ R.locals) → mm_run n sc F M pc ls st h = some (r, h') → (cells + (h'.1 - h.1) ≤ R.cells ∧ slots + (h'.2.1 - h.2.1) ≤ R.slots) →
    (∀ (pcr : Nat) (H' : Heap) (locs' : List Loc) (lsA : Array Slot), mm_Ret M pcr r → mm_HP D B h' H' → va_S (fun q => B.2 ≤ q) s.heap H' locs' → W p l e R s m args below meth c H' locs' (cells + (h'.1 - h.1)) (slots + (h'.2.1 - h.2.1)) Q (F0 m pcr lsA (r.toList.map (mm_sh B)))) → mm_G p l e R s m args below meth c Q D B M pc ls st h cells slots
theorem mm_good {t : mm_T} (hc : Cond.code t.2.1 t.2.2.1 t.2.2.2.1 t.2.2.2.2.1 ∈ mm_Ws) : GoodIn mm_Ws (mm_ws t) := by
  intro w hw
  have hw2 : w ∈ mm_Ws := by
    rcases List.mem_cons.mp hw with rfl | h
    · exact hc
    · exact h
  exact ⟨hw2, good_of_word (List.mem_filter.mp hw2).2⟩
theorem mm_met {l : Launch} {D : va_G} {B : Nat × Nat} {n F : Nat} {t : mm_T} {as : List Value} {h h' : mm_H} {r : Option Value} (hB : B.1 < B.2) (IH : mm_Sim l D B n) (hy : t.2.1.cls = mm_cn t.1) (hpl : plainName t.2.1.cls = true) (has : (as.map fun v => v.category).sum ≤ t.2.2.2.1) (hrun : mm_run n none F t 0 (lv_args 0 as) [] h = some (r, h')) :
    Met l t.2.1 (mm_ws t) (mm_rm F (h'.1 - h.1) (h'.2.1 - h.2.1)) (mm_Pc D B as h) (mm_Qc D B r h') (h'.1 - h.1) (h'.2.1 - h.2.1) (fun q => B.2 ≤ q) := by
  refine Met.ofW (cc := t.2.2.1) (maxL := t.2.2.2.1) (ret := t.2.2.2.2.1) hpl rfl ?_
  intro p e s m args below meth c s₁ B9 hml hv
  obtain ⟨rfl, hP, hWF⟩ := hv
  have hts := atoms_spec (ws := mm_ws t) B9.pre
  have hown : s.vm.findClass (mm_cn t.1) = some m.cls := by rw [← hy]; exact findClass_of_methodNamed B9.named
  have hlocks := B9.notSynchronized
  have hret := B9.returns
  have C : mm_Ctx p s m (as.map (mm_sh B)).toArray meth c D B t := ⟨B9.exec, B9.bytes, hml, hown, fun w hw => hts w (List.mem_cons_of_mem _ hw), hWF, fun hi => (name_of_methodNamed B9.named B9.method).1.trans hi, hB, by have h1 := hP.1; have h2 := hP.2.1; omega⟩
  have hl := lv_entry (as.map (mm_sh B)) (n := t.2.2.2.1) (by rw [mm_sl_len]; exact has)
  rw [← mm_mp_args] at hl
  rw [lg_entry_eq]
  refine IH p e _ s m _ below meth c _ t none F 0 (lv_args 0 as) [] h h' r 0 0 C (fun xs h => by cases h) ⟨Nat.le_refl _, Nat.le_refl _⟩ hrun ⟨by rw [Nat.zero_add]; exact Nat.le_refl _, by rw [Nat.zero_add]; exact Nat.le_refl _⟩ ?_ s.heap [] _ hP va_S.rf hl
  intro pcr H' locs' lsA hR hP' hS'
  rw [Nat.zero_add, Nat.zero_add]
  have hq : ∀ t2 : State, t2.heap = H' → s.WarmedH t2.vm → mm_Qc D B r h' (as.map (mm_sh B)).toArray s (.returned (r.map (mm_sh B))) t2 := fun t2 ht _ => ⟨rfl, by rw [ht]; exact hP', hS'.F ht⟩
  rcases hR with ⟨v, rfl, hd, hty⟩ | ⟨v, rfl, hd, hty⟩ | ⟨rfl, hd, hty⟩
  · rcases hty with hty | ⟨hty, hv⟩
    · exact W.iret B9.exec B9.bytes (hret.trans hty) hq hS'.2.2 hd
    · exact W.zret (ty := .boolean) B9.exec B9.bytes (hret.trans hty) (by rcases hv with rfl | rfl <;> rfl) hq hS'.2.2 hd
  · exact W.lret B9.exec B9.bytes (hret.trans hty) hq hS'.2.2 hd
  · exact W.vret B9.exec B9.bytes (hret.trans hty) hq hS'.2.2 hd
theorem mm_mth_spec {o i k : Nat} {t : mm_T} (h : mm_mth o i = some (k, t)) : ((o, i, k, t) : Nat × Nat × Nat × mm_T) ∈ mm_mthL := by
  obtain ⟨q, hq, hv⟩ := Option.map_eq_some_iff.mp h
  have h1 := List.find?_some hq
  have h2 := List.mem_of_find?_eq_some hq
  simp only [Bool.and_eq_true, beq_iff_eq] at h1
  obtain ⟨a, b, c⟩ := q
  have e1 : a = o := h1.1
  have e2 : b = i := h1.2
  have e3 : c = (k, t) := hv
  subst e1; subst e2; subst e3
  exact h2
theorem mm_blind {D : va_G} {B : Nat × Nat} {as : List Value} {h : mm_H} : FrameBlind (mm_Pc D B as h) := fun a U g mk q => ⟨q.1, q.2.1, mm_WF.same (U := U.calling g mk a) rfl q.2.2⟩
section MG
variable {p : Program} {l : Launch} {e : Env} {R : Room} {s : State} {m : MethodId} {args : Array Value} {below : List Frame} {meth : Method} {c : Code} {Q : State → Prop} {D : va_G} {B : Nat × Nat} {M : mm_T}
variable {pc cells slots : Nat} {ls : mm_L} {st r : List Value} {h : mm_H}
set_option maxHeartbeats 4000000 in
theorem mm_callG {n F : Nat} {t : mm_T} {ins : Instr} {as rest : List Value} {h' : mm_H} {rv : Option Value} (C : mm_Ctx p s m args meth c D B M) (IH : mm_Sim l D B n) (hF : F + 1 ≤ R.frames ∧ 40 * (F + 1) ≤ R.locals) (hat : mm_at M pc = some ins) (hc : mm_Call M ins st h t as rest) (hrun : mm_run n none F t 0 (lv_args 0 as) [] h = some (rv, h')) (hr : cells + (h'.1 - h.1) ≤ R.cells ∧ slots + (h'.2.1 - h.2.1) ≤ R.slots)
    (kk : mm_G p l e R s m args below meth c Q D B M (pc + 3) ls (rv.toList ++ rest) h' (cells + (h'.1 - h.1)) (slots + (h'.2.1 - h.2.1))) : mm_G p l e R s m args below meth c Q D B M pc ls st h cells slots := fun H locs lsA hP hS hl => by
  obtain ⟨len, hd, hlen⟩ := mm_at_dec hat
  obtain ⟨rfl, hsum, has, i, k, hm, hcase⟩ := hc
  have he := mm_mth_spec hm
  have hco := mm_mthL_code _ he
  obtain ⟨o1, o2, o3⟩ := mm_mthL_ok1 _ he
  have p2 := mm_mthL_ok2 _ he
  obtain ⟨w1, w2⟩ := mm_mthL_ok3 _ he
  obtain ⟨hx, hb, hml, hown, hts, hWF, hnm, hB1, hB2⟩ := id C
  have hM := mm_met hB1 IH o1 o2 has hrun
  have hsum' : ((rest.map (mm_sh B)).map fun v => v.category).sum ≤ 8 := by
    rw [List.map_map]
    have e9 : ((fun v : Value => v.category) ∘ mm_sh B) = fun v => v.category := funext fun v => mm_sh_cat B v
    rw [e9]
    exact hsum
  have hroom : (mm_rm F (h'.1 - h.1) (h'.2.1 - h.2.1)).frames + 1 ≤ R.frames ∧ 8 + (t.2.2.2.1 + 11) + (mm_rm F (h'.1 - h.1) (h'.2.1 - h.2.1)).locals ≤ R.locals := ⟨hF.1, by
    have o3' : t.2.2.2.1 ≤ 20 := o3
    show 8 + (t.2.2.2.1 + 11) + 40 * F ≤ R.locals
    omega⟩
  have fin : ∀ a : Array Value, va_Run p l e R s m args below meth c H locs cells slots (h'.1 - h.1) (h'.2.1 - h.2.1) (F0 m pc lsA ((as.reverse ++ rest).map (mm_sh B))) (rest.map (mm_sh B)) (mm_Qc D B rv h' a) (fun q => B.2 ≤ q) → W p l e R s m args below meth c H locs cells slots Q (F0 m pc lsA ((as.reverse ++ rest).map (mm_sh B))) := fun a hrn => by
    refine mm_callK hrn hS (fun H1 locs1 hP1 hS1 => ?_)
    have k9 := kk H1 locs1 lsA hP1 hS1 hl
    rw [List.map_append] at k9
    have e9 : (rv.map (mm_sh B)).toList = rv.toList.map (mm_sh B) := by cases rv <;> rfl
    rw [e9]
    exact k9
  have hPc : ∀ U : State, U.heap = H → s.WarmedH U.vm → mm_Pc D B as h (as.map (mm_sh B)).toArray U := fun U hU hW => ⟨rfl, by rw [hU]; exact hP, hWF.warm hW⟩
  have hmono := mm_run_mono hrun
  have hcellb : cells + (h'.1 - h.1) ≤ R.cells ∧ slots + (h'.2.1 - h.2.1) ≤ R.slots := hr
  rcases hcase with ⟨rfl, rfl, hlen2⟩ | ⟨hk, a, As, fs, rfl, hlen2, hca⟩
  · obtain rfl : 3 = len := hlen.resolve_left (by simp [mm_ln])
    have w2' : Cond.methodLink (mm_cn M.1) i t.2.1 ∈ mm_Ws := w2.resolve_left (by simp)
    have cb := callB_of (R := R) (args := args) (own := mm_cn M.1) (index := i) (rm := mm_rm F (h'.1 - h.1) (h'.2.1 - h.2.1)) t.2.2.2.2.2 hts (mm_good hco) rfl rfl rfl (hts _ w1) (hts _ w2') p2 hroom
    exact fin _ (va_runS ⟨hx, hb, hml, hown, hts⟩ hM ⟨cb, hts _ (mm_mthL_ok5 _ he rfl)⟩ ⟨mm_blind, hPc⟩ rfl (by rw [List.length_map]; exact hlen2) hl.1 (by rw [List.map_append, List.map_reverse]) (lv_room hsum') hd hcellb)
  · have hin := (mm_mthL_ok6 _ he)
    have hk0 : ¬ k = 0 := by rcases hk with ⟨q, -⟩ | ⟨q | q, -⟩ <;> omega
    have hin2 : t.1 < 5 ∧ Cond.instanceMethod t.2.1 ∈ mm_Ws := hin.resolve_left hk0
    have hstk : ((Value.ref a :: As).reverse ++ rest).map (mm_sh B) = (As.map (mm_sh B)).reverse ++ Value.ref (mm_am B a) :: rest.map (mm_sh B) := by
      rw [List.reverse_cons, List.append_assoc, List.map_append, List.map_reverse]
      rfl
    have hcell := mm_cellO hin2.1 (hP.2.2 a _ hca).2.2
    rcases hk with ⟨rfl, rfl⟩ | ⟨hk, rfl⟩
    · obtain rfl : 3 = len := hlen.resolve_left (by simp [mm_ln])
      have w2' : Cond.methodLink (mm_cn M.1) i t.2.1 ∈ mm_Ws := w2.resolve_left (by simp)
      have cb := callB_of (R := R) (args := args) (own := mm_cn M.1) (index := i) (rm := mm_rm F (h'.1 - h.1) (h'.2.1 - h.2.1)) t.2.2.2.2.2 hts (mm_good hco) rfl rfl rfl (hts _ w1) (hts _ w2') p2 hroom
      obtain ⟨-, cell, g1, g2, g3, -⟩ := hcell
      have hcls := (hWF.1.1 t.1 _ (mm_cl_at t.1 hin2.1)).2
      exact fin _ (va_runV (C := mm_cn t.1) (b := mm_am B a) (As := As.map (mm_sh B)) ⟨hx, hb, hml, hown, hts⟩ hM ⟨cb, hts _ hin2.2, hts _ (mm_mthL_ok7 _ he rfl)⟩ ⟨mm_blind, ⟨cell, g1, by rw [g3]; rfl, by rw [g2]; exact hcls.1⟩, hPc⟩ rfl (by rw [List.length_map]; exact hlen2) hl.1 hstk (lv_room hsum') hd hcellb)
    · obtain rfl : 3 = len := hlen.resolve_left (by simp [mm_ln])
      obtain ⟨n1, n2⟩ := mm_mthL_ok8 _ he hk
      have n2' : t.2.2.2.2.1 = none := by simpa using n2
      by_cases hk3 : k = 3
      · have w3 := mm_mthL_ok4 _ he hk3
        have hw3 := hWF.2.2.2.2 _ w3
        have cb := va_cnB (R := R) (args := args) (own := mm_cn M.1) (index := i) (host := RX3) (rm := mm_rm F (h'.1 - h.1) (h'.2.1 - h.2.1)) t.2.2.2.2.2 hts (mm_good hco) rfl rfl rfl hw3 (hts _ w1) p2 hroom
        rw [n2'] at cb
        exact fin _ (va_runIN (b := mm_am B a) (As := As.map (mm_sh B)) ⟨hx, hb, hml, hown, hts⟩ hM ⟨cb, n1, hts _ hin2.2⟩ ⟨mm_blind, hPc⟩ rfl (by rw [List.length_map]; exact hlen2) hl.1 hstk (lv_room hsum') hd hcellb)
      · have w2' : Cond.methodLink (mm_cn M.1) i t.2.1 ∈ mm_Ws := w2.resolve_left hk3
        have cb := callB_of (R := R) (args := args) (own := mm_cn M.1) (index := i) (rm := mm_rm F (h'.1 - h.1) (h'.2.1 - h.2.1)) t.2.2.2.2.2 hts (mm_good hco) rfl rfl rfl (hts _ w1) (hts _ w2') p2 hroom
        rw [n2'] at cb
        exact fin _ (va_runI (b := mm_am B a) (As := As.map (mm_sh B)) ⟨hx, hb, hml, hown, hts⟩ hM ⟨cb, n1, hts _ hin2.2⟩ ⟨mm_blind, hPc⟩ rfl (by rw [List.length_map]; exact hlen2) hl.1 hstk (lv_room hsum') hd hcellb)
end MG
set_option maxHeartbeats 4000000 in
/-- THE SIMULATION -/
theorem mm_sim (l : Launch) (D : va_G) (B : Nat × Nat) : ∀ n : Nat, mm_Sim l D B n := by
  intro n
  induction n with
  | zero => intro p e R s m args below meth c Q M sc F pc ls st h h' r cells slots C hsc hF hrun; cases hrun
  | succ n IH =>
    intro p e R s m args below meth c Q M sc F pc ls st h h' r cells slots C hsc hF hrun hr K
    unfold mm_run at hrun
    split at hrun
    · cases hrun
    · rename_i ins hat
      split at hrun
      · cases hrun
      · rename_i pc1 ls1 st1 h1 hq
        have m1 := mm_x_mono hq
        have m2 := mm_run_mono hrun
        dsimp only at m1
        refine mm_sound C hsc hF hat hq (by dsimp only; omega) (fun c' s' ec es => ?_)
        dsimp only at ec es ⊢
        refine IH p e R s m args below meth c Q M sc F pc1 ls1 st1 h1 h' r c' s' C hsc hF hrun (by omega) (fun pcr H' locs' lsA hR hP hS => ?_)
        have e1 : c' + (h'.1 - h1.1) = cells + (h'.1 - h.1) := by omega
        have e2 : s' + (h'.2.1 - h1.2.1) = slots + (h'.2.1 - h.2.1) := by omega
        rw [e1, e2]
        exact K pcr H' locs' lsA hR hP hS
      · rename_i t as rest hq
        split at hrun
        · cases hrun
        · rename_i F'
          split at hrun
          · cases hrun
          · rename_i r1 h1 hc
            have m1 := mm_run_mono hc
            have m2 := mm_run_mono hrun
            refine mm_callG C IH hF hat (mm_x_call hq) hc (by omega) ?_
            refine IH p e R s m args below meth c Q M sc (F' + 1) (pc + 3) ls (r1.toList ++ rest) h1 h' r _ _ C hsc hF hrun (by omega) (fun pcr H' locs' lsA hR hP hS => ?_)
            have e1 : cells + (h1.1 - h.1) + (h'.1 - h1.1) = cells + (h'.1 - h.1) := by omega
            have e2 : slots + (h1.2.1 - h.2.1) + (h'.2.1 - h1.2.1) = slots + (h'.2.1 - h.2.1) := by omega
            rw [e1, e2]
            exact K pcr H' locs' lsA hR hP hS
      · rename_i hq
        obtain ⟨hR, rfl⟩ := mm_x_ret hat hq
        cases hrun
        intro H locs lsA hP hS hl
        have k9 := K pc H locs lsA hR hP hS
        rw [Nat.sub_self, Nat.sub_self, Nat.add_zero, Nat.add_zero] at k9
        exact k9
end
section
-- ===== end of PART A; then your names; then what follows =====
/-! THE CLAIM OUT OF ONE WALK OF THE LAW'S BODY. Your part is whole_start (and what it stands on); all else here is the same for every law, but numbers. -/
def R_law : String := "BellHouseLaw"
def lw_P (b : Addr) (xs : List Int32) (args : Array Value) (s : State) : Prop := args = #[.ref b] ∧ s.IntsAt b xs ∧ xs.length ≤ 2048 ∧ (Jvm.Cond.and given_1 narrow_1).before args s = true
def lw_Q (_ : Array Value) (s : State) (o : Outcome) (t : State) : Prop := o = .returned (some (.int 1)) ∧ Framed s o t [] 600000 7302250
def lw_Z (below : List Frame) (a : Array Value) (s : State) : State → Prop := fun t => ∃ o, t.status = .running ∧ Ended t below o ∧ lw_Q a s o t
/-- the law's own end, with 1 on the stack, nothing written that was there before, its room as the claim has it -/
theorem lw_ret {p : Program} {l : Launch} {e : Env} {s : State} {m : MethodId} {below : List Frame} {meth : Method} {c : Code} {b : Nat} (hx : p.tables.exec = Jvm.exec) (hb : c.code = code) (hr : meth.sig.returnType = ret) (hlocks : meth.locks = false) {pc : Nat} {H : Heap} {ls : Array Slot} (hdg : decode code pc = .ok (.ireturn, 1)) : W p l e room_1 s m #[Value.ref b] below meth c H [] 600000 7302250 (lw_Z below #[Value.ref b] s) (F0 m pc ls [.int 1]) := by
  intro T hT X
  obtain ⟨fs, hret, hrun, hended, hW, hframe⟩ := X.leave (v := some (.int 1)) (hlocks := hlocks) (fun h => by rw [hr] at h; cases h)
  have hmeth' : T.vm.method? m = some meth := X.method'
  refine ⟨T.setFrames fs, ?_, .returned (some (.int 1)), hrun, hended, rfl, ⟨_, rfl⟩, hW, hframe⟩
  jvm_step X.here [X.here.top, hx, hb, hdg, hmeth', hr, ret, narrow_b1]
  (try refine ⟨rfl, ?_⟩); (try refine ⟨rfl, ?_⟩)
  first | (intro acts; rw [hret _ acts rfl rfl rfl]) | rw [hret _ _ rfl rfl rfl]
  exact Steps.refl _
/-- what holds at the law's entry: the machine, the code, the tables' words (any of lw_tbl by 'hts w (by decide +kernel)'), the script of L ints xs at the cell b, what the Statement gives of the start (any of its parts by flat_of_before) -/
def lw_At (p : Program) (s : State) (m : MethodId) (meth : Method) (c : Code) (b L : Nat) (xs : Nat → Int32) : Prop :=
  p.tables.exec = Jvm.exec ∧ c.code = code ∧ meth.sig.returnType = ret ∧ c.maxLocals = 4 ∧ s.vm.findClass R_law = some m.cls ∧ (∀ w ∈ lw_tbl, w.before #[Value.ref b] s = true) ∧ va_X b L xs s s.heap ∧ b < s.heap.size ∧ meth.locks = false ∧ (Jvm.Cond.and given_1 narrow_1).before #[Value.ref b] s = true

/-- the tables' classes, at the law's start -/
theorem mm_world {s : State} {args : Array Value} (hts : ∀ w ∈ lw_tbl, w.before args s = true) : ∃ D : va_G, mm_WF D s := by
  have ht2 : ∀ w ∈ mm_Ws, w.before args s = true := fun w hw => hts w (List.mem_filter.mp hw).1
  obtain ⟨c0, i0, hk0⟩ := u_known (C := RX0) (T := TX0) (N := 7) (n := 7) ht2 (mm_lay_ok 0 (by decide)) (hts (.instantiable RX0 7) (by decide +kernel))
  obtain ⟨c1, i1, hk1⟩ := u_known (C := RX1) (T := TX1) (N := 3) (n := 3) ht2 (mm_lay_ok 1 (by decide)) (hts (.instantiable RX1 3) (by decide +kernel))
  obtain ⟨c2, i2, hk2⟩ := u_known (C := RX2) (T := TX2) (N := 4) (n := 4) ht2 (mm_lay_ok 2 (by decide)) (hts (.instantiable RX2 4) (by decide +kernel))
  obtain ⟨c3, i3, hk3⟩ := u_known (C := RX3) (T := TX3) (N := 17) (n := 17) ht2 (mm_lay_ok 3 (by decide)) (hts (.instantiable RX3 17) (by decide +kernel))
  obtain ⟨c4, i4, hk4⟩ := u_known (C := RX4) (T := TX4) (N := 31) (n := 31) ht2 (mm_lay_ok 4 (by decide)) (hts (.instantiable RX4 31) (by decide +kernel))
  obtain ⟨c5, k5, m5, f5, g5, e5⟩ := Cond.arrayClass_spec (hts (.arrayClass .int) (by decide +kernel))
  obtain ⟨c6, k6, m6, f6, g6, e6⟩ := Cond.arrayClass_spec (hts (.arrayClass .long) (by decide +kernel))
  have a7 := hts (.arrayOver (.object RX0)) (by decide +kernel)
  have a8 := hts (.arrayOver (.object RX1)) (by decide +kernel)
  have a9 := hts (.arrayOver (.array .int)) (by decide +kernel)
  obtain ⟨m7, c7, k7, p7, -, g7, e7, f7⟩ := Cond.arrayOver_spec a7
  obtain ⟨m8, c8, k8, p8, -, g8, e8, f8⟩ := Cond.arrayOver_spec a8
  obtain ⟨m9, c9, k9, p9, -, g9, e9, f9⟩ := arrayOverA_spec a9
  have h95 : m9 = c5 := Option.some.inj (p9.symm.trans f5)
  subst h95
  refine ⟨(fun k => match k with | 0 => c0 | 1 => c1 | 2 => c2 | 3 => c3 | 4 => c4 | 5 => m9 | 6 => c6 | 7 => c7 | 8 => c8 | _ => c9, fun k => match k with | 0 => i0 | 1 => i1 | 2 => i2 | 3 => i3 | _ => i4), ⟨?_, ?_⟩, va_AO.of a7, va_AO.of a8, ⟨⟨k9, g9, e9⟩, k5, m5, g5, e5⟩, ?_⟩
  · intro k q hq
    match k, hq with
    | 0, hq => cases hq; exact hk0
    | 1, hq => cases hq; exact hk1
    | 2, hq => cases hq; exact hk2
    | 3, hq => cases hq; exact hk3
    | 4, hq => cases hq; exact hk4
    | k + 5, hq => simp [vwCl] at hq
  · intro k q hq
    match k, hq with
    | 0, hq => cases hq; exact ⟨fun n z => ⟨(fun k h => by cases h), k5, g5, m5, e5⟩, f5⟩
    | 1, hq => cases hq; exact ⟨fun n z => ⟨(fun k h => by cases h), k6, g6, m6, e6⟩, f6⟩
    | 2, hq => cases hq; exact ⟨fun n z => ⟨(fun k h => by cases h), k7, g7, m7, e7⟩, k7, m7, g7, e7, p7, f7⟩
    | 3, hq => cases hq; exact ⟨fun n z => ⟨(fun k h => by cases h), k8, g8, m8, e8⟩, k8, m8, g8, e8, p8, f8⟩
    | 4, hq => cases hq; exact ⟨fun n z => ⟨(fun k h => by cases h), k9, g9, m9, e9⟩, f9⟩
    | k + 5, hq => simp [mm_tys] at hq
  · intro e he
    simp only [mm_nestL, List.mem_cons, List.not_mem_nil, or_false] at he
    rcases he with rfl | rfl
    · exact va_Nw.of rfl (hts (.methodLinkNest RX3 21 yX2_init RX3) (by decide +kernel))
    · exact va_Nw.of rfl (hts (.methodLinkNest RX3 40 yX1_init RX3) (by decide +kernel))
def mm_h0 : mm_H := (1, 0, fun _ => none)
/-- what is left: the law's run of the mini-machine ends with 1, within the room -/
def mm_Law : Prop := ∀ xs : List Int32, xs.length ≤ 2048 → mW (some xs) 2048 mL_law 0 [(0, .ref 0)] [] mm_h0 (fun r h => r = some (.int 1) ∧ h.1 ≤ 600001 ∧ h.2.1 ≤ 7302250)
theorem mm_start (hpure : mm_Law) {p : Program} {e : Env} {s : State} {m : MethodId} {below : List Frame} {meth : Method} {c : Code} (l : Launch) {b L : Nat} {xs : Nat → Int32} (hL : L ≤ 2048) (C0 : lw_At p s m meth c b L xs) : W p l e room_1 s m #[Value.ref b] below meth c s.heap [] 0 0 (lw_Z below #[Value.ref b] s) (entryFrame m ([Value.ref b] : List Value).toArray 4) := by
  obtain ⟨hx, hb, hr, hml, hown, hts, hX, hbl, hlocks, hgv⟩ := C0
  obtain ⟨D, hWF⟩ := mm_world hts
  obtain ⟨n, r, h', hrun, rfl, hc, hs⟩ := hpure ((List.range L).map xs) (by rw [List.length_map, List.length_range]; exact hL)
  have hX2 : va_X b ((List.range L).map xs).length (fun j => ((List.range L).map xs).getD j 0) s s.heap := by
    obtain ⟨scr, g1, g2, g3, g4, g5⟩ := hX
    refine ⟨scr, g1, g2, g3, by rw [List.length_map, List.length_range]; exact g4, fun j hj => ?_⟩
    rw [List.length_map, List.length_range] at hj
    rw [g5 j hj]
    simp [List.getD, hj]
  have C : mm_Ctx p s m #[Value.ref b] meth c D (b, s.heap.size) mL_law := ⟨hx, hb, hml, hown, fun w hw => hts w (List.mem_filter.mp hw).1, hWF, fun h => absurd h (by decide), hbl, Nat.le_refl _⟩
  have hl := lv_entry ([.ref b]) (n := 4) (Nat.le_of_ble_eq_true rfl)
  rw [lg_entry_eq]
  refine mm_sim l D (b, s.heap.size) n p e room_1 s m #[Value.ref b] below meth c (lw_Z below #[Value.ref b] s) mL_law (some ((List.range L).map xs)) 2048 0 [(0, .ref 0)] [] mm_h0 h' (some (.int 1)) 0 0 C (fun ys hys => ?_) ⟨by show 2048 ≤ 2048; omega, by show 40 * 2048 ≤ 84000; omega⟩ hrun ⟨by show 0 + (h'.1 - 1) ≤ 600000; omega, by show 0 + (h'.2.1 - 0) ≤ 7302250; omega⟩ (fun pcr H' locs' lsA hR hP hS => ?_) s.heap [] _ ⟨Nat.le_refl _, rfl, fun a c h => by cases h⟩ va_S.rf hl
  · cases hys
    exact hX2
  · have hd : decode code pcr = .ok (.ireturn, 1) := by
      rcases hR with ⟨v, -, hd, -⟩ | ⟨v, h9, -⟩ | ⟨h9, -⟩
      · exact hd
      · cases h9
      · cases h9
    refine va_forget (fun q hq => hS.2.2 q hq) ?_
    refine W.widen (k := 600000) (n := 7302250) (by show 0 + (h'.1 - 1) ≤ 600000; omega) (by show 0 + (h'.2.1 - 0) ≤ 7302250; omega) ?_
    exact lw_ret hx hb hr hlocks hd
end
section
theorem mm_law : mm_Law := sorry
end
section
theorem whole_start {p : Program} {e : Env} {s : State} {m : MethodId} {below : List Frame} {meth : Method} {c : Code} (l : Launch) {b L : Nat} {xs : Nat → Int32} (hL : L ≤ 2048) (C0 : lw_At p s m meth c b L xs) : W p l e room_1 s m #[Value.ref b] below meth c s.heap [] 0 0 (lw_Z below #[Value.ref b] s) (entryFrame m ([Value.ref b] : List Value).toArray 4) := mm_start mm_law l hL C0
-- ===== YOUR PART ENDS =====
set_option maxHeartbeats 4000000 in
theorem lw_walk (l : Launch) (b : Addr) (xs : List Int32) : MetFree l x (headSpec (Jvm.Cond.code x code maxLocals ret :: tables_1) room_1) (lw_P b xs) (fun _ _ _ _ _ => True) lw_Q := by
  refine MetFree.of_bodyS (code := code) (maxLocals := maxLocals) (ret := ret) (by decide) ?_ ?_
  · intro args s m h hn
    obtain ⟨meth, c, h1, h2, h3, h4, h5, h6, -, -⟩ := Cond.code_spec hn (atoms_spec (ws := Jvm.Cond.code x code maxLocals ret :: tables_1) h _ List.mem_cons_self)
    exact ⟨meth, c, h1, h2, h3, h4, h5, h6⟩
  · intro p e s m args below meth c s₁ B hml0 hP _
    obtain ⟨rfl, hx, hbd, hgv⟩ := hP
    obtain ⟨scr, harrAt, hlist, hof, hsmall⟩ := hx
    obtain ⟨hcb, hkn, -, -⟩ := State.arrayAt?_spec harrAt
    have hown : s.vm.findClass R_law = some m.cls := findClass_of_methodNamed B.named
    have hts0 : ∀ c ∈ (Jvm.Cond.code x code maxLocals ret :: tables_1), c.before #[Value.ref b] s = true := atoms_spec (ws := Jvm.Cond.code x code maxLocals ret :: tables_1) B.pre
    have hts : ∀ w ∈ lw_tbl, w.before #[Value.ref b] s = true := k2_hts_sels lw_privs (fun w hw => hts0 w (List.mem_cons_of_mem _ hw)) lw_privs_ok
    have hml : c.maxLocals = 4 := B.maxLocals_eq (hts0 _ List.mem_cons_self)
    have X₀ : Stand p l e room_1 s m #[Value.ref b] below meth c s₁ [] 0 0 := Stand.of_body B
    have hh0 : s₁.heap = s.heap := by rw [B.state]; rfl
    have hsz : scr.slots.size = xs.length := by rw [← Array.length_toList, hlist, List.length_map]
    have hval : ∀ j : Nat, j < xs.length → scr.slots[j]? = some (.int (xs.getD j 0)) := fun j hj => by
      rw [← Array.getElem?_toList, hlist]
      simp [hj]
    have hbl : b < s.heap.size := (Array.getElem?_eq_some_iff.mp hcb).1
    have hX : va_X b xs.length (fun j => xs.getD j 0) s s.heap := ⟨scr, hcb, hof, hkn, hsz, hval⟩
    have K : W p l e room_1 s m #[Value.ref b] below meth c s₁.heap [] 0 0 (lw_Z below #[Value.ref b] s) (entryFrame m ([Value.ref b] : List Value).toArray 4) := by
      rw [hh0]
      exact whole_start l hbd ⟨B.exec, B.bytes, B.returns, hml, hown, hts, hX, hbl, B.notSynchronized, hgv⟩
    obtain ⟨t, a1, o, b1, b2, b3⟩ := K s₁ rfl X₀
    exact ⟨t, o, a1, b1, b2, b3⟩
theorem lw_pre_spec {args : Array Value} {s : State} (h : (Jvm.Cond.and given_1 narrow_1).before args s = true) (hr : rest_1_c.before args s = true) : ∃ (b : Addr) (xs : List Int32), lw_P b xs args s := by
  have hs := flat_of_before _ h
  have hq := flat_of_before _ hr
  have hc : (Cond.count 1).before args s = true := hs _ (by decide +kernel)
  have harr : (Cond.arrayOf (.arg 0) .int).before args s = true := hs _ (by decide +kernel)
  have hle : (Cond.le (.length (.arg 0)) (.int 2048)).before args s = true := hs _ (by decide +kernel)
  have hlen : (Cond.isInt (.length (.arg 0))).before args s = true := hq _ (by decide +kernel)
  have hall : (Cond.all (.arg 0) (.isInt (.elem (.arg 0) (.index 0)))).before args s = true := hq _ (by decide +kernel)
  obtain ⟨b, xs, hb, hx⟩ := State.ints_of_pre rfl harr hlen hall
  have hsm : xs.length < 2 ^ 31 := hx.choose_spec.2.2.2
  have hev : (Term.length (.arg 0)).eval args s none [] s = some (.int xs.length.toInt32) := hx.length_eval hb
  have hv := Cond.le_ints hev (show (Term.int 2048).eval args s none [] s = some (.int 2048) from rfl)
  have hd : xs.length.toInt32 ≤ 2048 := by
    simpa [Cond.before, Cond.holds, hv] using hle
  have hN : xs.length ≤ 2048 := (Int32.ofNat_le_ofNat hsm (by decide)).mp (show Int32.ofNat xs.length ≤ Int32.ofNat 2048 from hd)
  exact ⟨b, xs, Cond.one_arg hc (show args[0]? = some (.ref b) from hb), hx, hN, h⟩
theorem lw_comes (l : Launch) : Comes l x (Jvm.Cond.code x code maxLocals ret :: tables_1) room_1 (fun tb e args s => Calls_1 tb e args s ∧ rest_1 tb e args s ∧ Pre_1 tb e args s)
    (fun _ _ args s o t => lw_Q args s o t) := by
  intro p e ha hc hk s m args below hf hfit hheap happ hpre
  obtain ⟨b, xs, hP⟩ := lw_pre_spec hpre.2.2 hpre.2.1
  obtain ⟨k, o, h1, h2, h3, hQ⟩ := lw_walk l b xs p e ha hc hk s m args below hf ((Spec.applies_iff_loose hf).mp happ).1 hP trivial
  exact ⟨k, o, h1, h2, h3, hQ⟩
theorem lw_frame {s t : State} {o : Outcome} {args : Array Value} (h : Framed s o t [] 600000 7302250) :
    Framed s o t (fieldLocs frame_1_writes args s ++ arrayLocs frame_1_arrays args s ++ staticLocs frame_1_statics s) 600000 7302250 := h
theorem lw_limb (L : Cond) (hL : ∀ (args : Array Value) (s t : State), L.after args s (.returned (some (.int 1))) t = true) :
    ArmFor flags0 classFile x code maxLocals ret World_1 tables_1 room_1 Calls_1 rest_1 Pre_1
      (fun tb e a s o t => postC L tb e a s o t ∧ Framed s o t (fieldLocs frame_1_writes a s ++ arrayLocs frame_1_arrays a s ++ staticLocs frame_1_statics s) 600000 7302250) := by
  intro l _ _ _ p e ha hc hk s m args below hf hfit hheap happ hpre
  obtain ⟨k, o, h1, h2, h3, rfl, hF⟩ := lw_comes l p e ha hc hk s m args below hf hfit hheap happ hpre
  exact ⟨k, _, h1, h2, h3, hL args s _, lw_frame hF⟩
theorem i_vc : Claimed_1_1 ∧ Claimed_1_2 := ⟨lw_limb limb_1_1 (fun args s t => by simp [limb_1_1, Cond.after, Cond.holds, Cond.value]), lw_limb limb_1_2 (fun args s t => Cond.after_iff.mpr (by
  first | (rw [show limb_1_2 = Cond.eq .result (.int 1) from rfl, Cond.eq_ints (x := 1) (y := 1) rfl rfl]; simp; done) | (simp [limb_1_2, Cond.value, Term.eval]; done)))⟩
end
