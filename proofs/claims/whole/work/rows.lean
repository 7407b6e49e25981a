section
-- ===== PART A: goes FIRST, ahead of the names: the tables' words, and 'selects' of the private methods out of them =====
/-- a private method of a class that the tables say can be made, by its rows of tables_1 -/
def lw_okq (q : MethodName × Nat) : Prop := (q.1.cls ≠ "java/lang/invoke/MethodHandle" ∧ q.1.cls ≠ "java/lang/invoke/VarHandle") ∧ Cond.instantiable q.1.cls q.2 ∈ tables_1 ∧ Cond.privateMethod q.1 ∈ tables_1 ∧ Cond.instanceMethod q.1 ∈ tables_1
theorem lw_p0 : lw_okq (⟨"BellHouse", "makeHearer", "(III)I"⟩, 17) := ⟨⟨by decide +kernel, by decide +kernel⟩, List.mem_of_getElem? (i := 8) (by decide +kernel), List.mem_of_getElem? (i := 60) (by decide +kernel), List.mem_of_getElem? (i := 61) (by decide +kernel)⟩
theorem lw_p1 : lw_okq (⟨"BellHouse", "canBeMade", "(III)Z"⟩, 17) := ⟨⟨by decide +kernel, by decide +kernel⟩, List.mem_of_getElem? (i := 8) (by decide +kernel), List.mem_of_getElem? (i := 168) (by decide +kernel), List.mem_of_getElem? (i := 169) (by decide +kernel)⟩
theorem lw_p2 : lw_okq (⟨"BellHouse", "isHearer", "(I)Z"⟩, 17) := ⟨⟨by decide +kernel, by decide +kernel⟩, List.mem_of_getElem? (i := 8) (by decide +kernel), List.mem_of_getElem? (i := 172) (by decide +kernel), List.mem_of_getElem? (i := 173) (by decide +kernel)⟩
theorem lw_p3 : lw_okq (⟨"BellHouse", "ringBell", "(IJ)I"⟩, 17) := ⟨⟨by decide +kernel, by decide +kernel⟩, List.mem_of_getElem? (i := 8) (by decide +kernel), List.mem_of_getElem? (i := 208) (by decide +kernel), List.mem_of_getElem? (i := 209) (by decide +kernel)⟩
theorem lw_p4 : lw_okq (⟨"BellHouse", "perform", "(LBellHouse$Act;J)I"⟩, 17) := ⟨⟨by decide +kernel, by decide +kernel⟩, List.mem_of_getElem? (i := 8) (by decide +kernel), List.mem_of_getElem? (i := 217) (by decide +kernel), List.mem_of_getElem? (i := 218) (by decide +kernel)⟩
theorem lw_p5 : lw_okq (⟨"BellHouse", "metByTry", "(LBellHouse$Act;I)I"⟩, 17) := ⟨⟨by decide +kernel, by decide +kernel⟩, List.mem_of_getElem? (i := 8) (by decide +kernel), List.mem_of_getElem? (i := 224) (by decide +kernel), List.mem_of_getElem? (i := 225) (by decide +kernel)⟩
theorem lw_p6 : lw_okq (⟨"BellHouse", "performAlone", "(LBellHouse$Act;J)I"⟩, 17) := ⟨⟨by decide +kernel, by decide +kernel⟩, List.mem_of_getElem? (i := 8) (by decide +kernel), List.mem_of_getElem? (i := 231) (by decide +kernel), List.mem_of_getElem? (i := 232) (by decide +kernel)⟩
theorem lw_p7 : lw_okq (⟨"BellHouse", "shareTally", "(IJ)I"⟩, 17) := ⟨⟨by decide +kernel, by decide +kernel⟩, List.mem_of_getElem? (i := 8) (by decide +kernel), List.mem_of_getElem? (i := 238) (by decide +kernel), List.mem_of_getElem? (i := 239) (by decide +kernel)⟩
theorem lw_p8 : lw_okq (⟨"BellHouse", "addAtPlace", "(JI)I"⟩, 17) := ⟨⟨by decide +kernel, by decide +kernel⟩, List.mem_of_getElem? (i := 8) (by decide +kernel), List.mem_of_getElem? (i := 242) (by decide +kernel), List.mem_of_getElem? (i := 243) (by decide +kernel)⟩
theorem lw_p9 : lw_okq (⟨"BellHouse", "removeFromAllLines", "(I)V"⟩, 17) := ⟨⟨by decide +kernel, by decide +kernel⟩, List.mem_of_getElem? (i := 8) (by decide +kernel), List.mem_of_getElem? (i := 250) (by decide +kernel), List.mem_of_getElem? (i := 251) (by decide +kernel)⟩
theorem lw_p10 : lw_okq (⟨"BellHouse", "metByBell", "(LBellHouse$Bell;I)I"⟩, 17) := ⟨⟨by decide +kernel, by decide +kernel⟩, List.mem_of_getElem? (i := 8) (by decide +kernel), List.mem_of_getElem? (i := 254) (by decide +kernel), List.mem_of_getElem? (i := 255) (by decide +kernel)⟩
theorem lw_p11 : lw_okq (⟨"BellHouse", "ringQueueAfter", "(I)I"⟩, 17) := ⟨⟨by decide +kernel, by decide +kernel⟩, List.mem_of_getElem? (i := 8) (by decide +kernel), List.mem_of_getElem? (i := 261) (by decide +kernel), List.mem_of_getElem? (i := 262) (by decide +kernel)⟩
theorem lw_p12 : lw_okq (⟨"BellHouse", "answerOfCall", "(I)I"⟩, 17) := ⟨⟨by decide +kernel, by decide +kernel⟩, List.mem_of_getElem? (i := 8) (by decide +kernel), List.mem_of_getElem? (i := 277) (by decide +kernel), List.mem_of_getElem? (i := 278) (by decide +kernel)⟩
theorem lw_p13 : lw_okq (⟨"BellHouseModel", "make", "(III)V"⟩, 31) := ⟨⟨by decide +kernel, by decide +kernel⟩, List.mem_of_getElem? (i := 317) (by decide +kernel), List.mem_of_getElem? (i := 323) (by decide +kernel), List.mem_of_getElem? (i := 324) (by decide +kernel)⟩
theorem lw_p14 : lw_okq (⟨"BellHouseModel", "isHearer", "(I)Z"⟩, 31) := ⟨⟨by decide +kernel, by decide +kernel⟩, List.mem_of_getElem? (i := 317) (by decide +kernel), List.mem_of_getElem? (i := 447) (by decide +kernel), List.mem_of_getElem? (i := 448) (by decide +kernel)⟩
theorem lw_p15 : lw_okq (⟨"BellHouseModel", "placeOf", "(II)I"⟩, 31) := ⟨⟨by decide +kernel, by decide +kernel⟩, List.mem_of_getElem? (i := 317) (by decide +kernel), List.mem_of_getElem? (i := 455) (by decide +kernel), List.mem_of_getElem? (i := 456) (by decide +kernel)⟩
def lw_privs_1 : List (MethodName × Nat) := [(⟨"BellHouse", "makeHearer", "(III)I"⟩, 17), (⟨"BellHouse", "canBeMade", "(III)Z"⟩, 17), (⟨"BellHouse", "isHearer", "(I)Z"⟩, 17), (⟨"BellHouse", "ringBell", "(IJ)I"⟩, 17), (⟨"BellHouse", "perform", "(LBellHouse$Act;J)I"⟩, 17), (⟨"BellHouse", "metByTry", "(LBellHouse$Act;I)I"⟩, 17), (⟨"BellHouse", "performAlone", "(LBellHouse$Act;J)I"⟩, 17), (⟨"BellHouse", "shareTally", "(IJ)I"⟩, 17), (⟨"BellHouse", "addAtPlace", "(JI)I"⟩, 17), (⟨"BellHouse", "removeFromAllLines", "(I)V"⟩, 17), (⟨"BellHouse", "metByBell", "(LBellHouse$Bell;I)I"⟩, 17), (⟨"BellHouse", "ringQueueAfter", "(I)I"⟩, 17), (⟨"BellHouse", "answerOfCall", "(I)I"⟩, 17), (⟨"BellHouseModel", "make", "(III)V"⟩, 31), (⟨"BellHouseModel", "isHearer", "(I)Z"⟩, 31), (⟨"BellHouseModel", "placeOf", "(II)I"⟩, 31)]
theorem lw_r1 : ∀ q ∈ lw_privs_1, lw_okq q := List.forall_mem_cons.mpr ⟨lw_p0, List.forall_mem_cons.mpr ⟨lw_p1, List.forall_mem_cons.mpr ⟨lw_p2, List.forall_mem_cons.mpr ⟨lw_p3, List.forall_mem_cons.mpr ⟨lw_p4, List.forall_mem_cons.mpr ⟨lw_p5, List.forall_mem_cons.mpr ⟨lw_p6, List.forall_mem_cons.mpr ⟨lw_p7, List.forall_mem_cons.mpr ⟨lw_p8, List.forall_mem_cons.mpr ⟨lw_p9, List.forall_mem_cons.mpr ⟨lw_p10, List.forall_mem_cons.mpr ⟨lw_p11, List.forall_mem_cons.mpr ⟨lw_p12, List.forall_mem_cons.mpr ⟨lw_p13, List.forall_mem_cons.mpr ⟨lw_p14, List.forall_mem_cons.mpr ⟨lw_p15, fun _ h => absurd h List.not_mem_nil⟩⟩⟩⟩⟩⟩⟩⟩⟩⟩⟩⟩⟩⟩⟩⟩
theorem lw_p16 : lw_okq (⟨"BellHouseModel", "put", "(II)V"⟩, 31) := ⟨⟨by decide +kernel, by decide +kernel⟩, List.mem_of_getElem? (i := 317) (by decide +kernel), List.mem_of_getElem? (i := 459) (by decide +kernel), List.mem_of_getElem? (i := 460) (by decide +kernel)⟩
theorem lw_p17 : lw_okq (⟨"BellHouseModel", "out", "(II)I"⟩, 31) := ⟨⟨by decide +kernel, by decide +kernel⟩, List.mem_of_getElem? (i := 317) (by decide +kernel), List.mem_of_getElem? (i := 467) (by decide +kernel), List.mem_of_getElem? (i := 468) (by decide +kernel)⟩
theorem lw_p18 : lw_okq (⟨"BellHouseModel", "ready", "()V"⟩, 31) := ⟨⟨by decide +kernel, by decide +kernel⟩, List.mem_of_getElem? (i := 317) (by decide +kernel), List.mem_of_getElem? (i := 483) (by decide +kernel), List.mem_of_getElem? (i := 484) (by decide +kernel)⟩
theorem lw_p19 : lw_okq (⟨"BellHouseModel", "rings", "(IJ)V"⟩, 31) := ⟨⟨by decide +kernel, by decide +kernel⟩, List.mem_of_getElem? (i := 317) (by decide +kernel), List.mem_of_getElem? (i := 487) (by decide +kernel), List.mem_of_getElem? (i := 488) (by decide +kernel)⟩
theorem lw_p20 : lw_okq (⟨"BellHouseModel", "heap", "(IIJ)V"⟩, 31) := ⟨⟨by decide +kernel, by decide +kernel⟩, List.mem_of_getElem? (i := 317) (by decide +kernel), List.mem_of_getElem? (i := 491) (by decide +kernel), List.mem_of_getElem? (i := 492) (by decide +kernel)⟩
theorem lw_p21 : lw_okq (⟨"BellHouseModel", "all", "()I"⟩, 31) := ⟨⟨by decide +kernel, by decide +kernel⟩, List.mem_of_getElem? (i := 317) (by decide +kernel), List.mem_of_getElem? (i := 495) (by decide +kernel), List.mem_of_getElem? (i := 496) (by decide +kernel)⟩
theorem lw_p22 : lw_okq (⟨"BellHouseModel", "works", "()V"⟩, 31) := ⟨⟨by decide +kernel, by decide +kernel⟩, List.mem_of_getElem? (i := 317) (by decide +kernel), List.mem_of_getElem? (i := 499) (by decide +kernel), List.mem_of_getElem? (i := 500) (by decide +kernel)⟩
theorem lw_p23 : lw_okq (⟨"BellHouseModel", "fails", "()V"⟩, 31) := ⟨⟨by decide +kernel, by decide +kernel⟩, List.mem_of_getElem? (i := 317) (by decide +kernel), List.mem_of_getElem? (i := 503) (by decide +kernel), List.mem_of_getElem? (i := 504) (by decide +kernel)⟩
theorem lw_p24 : lw_okq (⟨"BellHouseModel", "stop", "()V"⟩, 31) := ⟨⟨by decide +kernel, by decide +kernel⟩, List.mem_of_getElem? (i := 317) (by decide +kernel), List.mem_of_getElem? (i := 507) (by decide +kernel), List.mem_of_getElem? (i := 508) (by decide +kernel)⟩
theorem lw_p25 : lw_okq (⟨"BellHouseModel", "does", "()V"⟩, 31) := ⟨⟨by decide +kernel, by decide +kernel⟩, List.mem_of_getElem? (i := 317) (by decide +kernel), List.mem_of_getElem? (i := 511) (by decide +kernel), List.mem_of_getElem? (i := 512) (by decide +kernel)⟩
theorem lw_p26 : lw_okq (⟨"BellHouseModel", "doesOthers", "(IJ)V"⟩, 31) := ⟨⟨by decide +kernel, by decide +kernel⟩, List.mem_of_getElem? (i := 317) (by decide +kernel), List.mem_of_getElem? (i := 515) (by decide +kernel), List.mem_of_getElem? (i := 516) (by decide +kernel)⟩
theorem lw_p27 : lw_okq (⟨"BellHouseModel", "begins", "(IJ)V"⟩, 31) := ⟨⟨by decide +kernel, by decide +kernel⟩, List.mem_of_getElem? (i := 317) (by decide +kernel), List.mem_of_getElem? (i := 519) (by decide +kernel), List.mem_of_getElem? (i := 520) (by decide +kernel)⟩
theorem lw_p28 : lw_okq (⟨"BellHouseModel", "goesOn", "()V"⟩, 31) := ⟨⟨by decide +kernel, by decide +kernel⟩, List.mem_of_getElem? (i := 317) (by decide +kernel), List.mem_of_getElem? (i := 523) (by decide +kernel), List.mem_of_getElem? (i := 524) (by decide +kernel)⟩
def lw_privs_2 : List (MethodName × Nat) := [(⟨"BellHouseModel", "put", "(II)V"⟩, 31), (⟨"BellHouseModel", "out", "(II)I"⟩, 31), (⟨"BellHouseModel", "ready", "()V"⟩, 31), (⟨"BellHouseModel", "rings", "(IJ)V"⟩, 31), (⟨"BellHouseModel", "heap", "(IIJ)V"⟩, 31), (⟨"BellHouseModel", "all", "()I"⟩, 31), (⟨"BellHouseModel", "works", "()V"⟩, 31), (⟨"BellHouseModel", "fails", "()V"⟩, 31), (⟨"BellHouseModel", "stop", "()V"⟩, 31), (⟨"BellHouseModel", "does", "()V"⟩, 31), (⟨"BellHouseModel", "doesOthers", "(IJ)V"⟩, 31), (⟨"BellHouseModel", "begins", "(IJ)V"⟩, 31), (⟨"BellHouseModel", "goesOn", "()V"⟩, 31)]
theorem lw_r2 : ∀ q ∈ lw_privs_2, lw_okq q := List.forall_mem_cons.mpr ⟨lw_p16, List.forall_mem_cons.mpr ⟨lw_p17, List.forall_mem_cons.mpr ⟨lw_p18, List.forall_mem_cons.mpr ⟨lw_p19, List.forall_mem_cons.mpr ⟨lw_p20, List.forall_mem_cons.mpr ⟨lw_p21, List.forall_mem_cons.mpr ⟨lw_p22, List.forall_mem_cons.mpr ⟨lw_p23, List.forall_mem_cons.mpr ⟨lw_p24, List.forall_mem_cons.mpr ⟨lw_p25, List.forall_mem_cons.mpr ⟨lw_p26, List.forall_mem_cons.mpr ⟨lw_p27, List.forall_mem_cons.mpr ⟨lw_p28, fun _ h => absurd h List.not_mem_nil⟩⟩⟩⟩⟩⟩⟩⟩⟩⟩⟩⟩⟩
def lw_privs : List (MethodName × Nat) := lw_privs_1 ++ (lw_privs_2)
def lw_tbl : List Cond := k2_sels lw_privs ++ tables_1
theorem lw_privs_ok : ∀ q ∈ lw_privs, lw_okq q := by
  show ∀ q ∈ lw_privs_1 ++ (lw_privs_2), lw_okq q
  exact List.forall_mem_append.mpr ⟨lw_r1, lw_r2⟩
end
section
def RX0 : String := "BellHouse$Act"
def TX0 : u_T := fun k => match k with
  | 0 => ("BellHouse$Act", "sort", "I", true)
  | 1 => ("BellHouse$Act", "a", "I", true)
  | 2 => ("BellHouse$Act", "b", "I", true)
  | 3 => ("BellHouse$Act", "kept", "J", true)
  | 4 => ("BellHouse$Act", "first", "LBellHouse$Act;", true)
  | 5 => ("BellHouse$Act", "second", "LBellHouse$Act;", true)
  | _ => ("BellHouse$Act", "begun", "I", false)
def tyX0 : Nat → FieldType := fun k => match k with
  | 0 => .int
  | 1 => .int
  | 2 => .int
  | 3 => .long
  | 4 => .object "BellHouse$Act"
  | 5 => .object "BellHouse$Act"
  | _ => .int
theorem nmX0 : ∀ a, a < 7 → ∀ b, b < 7 → a ≠ b → (TX0 a).2.1 ≠ (TX0 b).2.1 := by decide +kernel
theorem tyX0_ok : ∀ k, k < 7 → parseFieldDescriptor (TX0 k).2.2.1 = some (tyX0 k) := by decide +kernel
abbrev cX0_init : ByteArray := prog_2_method_1_code
def yX0_init : MethodName := ⟨RX0, "<init>", "(IIIJLBellHouse$Act;LBellHouse$Act;)V"⟩
def RX1 : String := "BellHouse$Bell"
def TX1 : u_T := fun k => match k with
  | 0 => ("BellHouse$Bell", "hearersInLine", "[I", true)
  | 1 => ("BellHouse$Bell", "length", "I", false)
  | _ => ("BellHouse$Bell", "way", "I", false)
def tyX1 : Nat → FieldType := fun k => match k with
  | 0 => .array .int
  | 1 => .int
  | _ => .int
theorem nmX1 : ∀ a, a < 3 → ∀ b, b < 3 → a ≠ b → (TX1 a).2.1 ≠ (TX1 b).2.1 := by decide +kernel
theorem tyX1_ok : ∀ k, k < 3 → parseFieldDescriptor (TX1 k).2.2.1 = some (tyX1 k) := by decide +kernel
abbrev cX1_init : ByteArray := prog_3_method_1_code
def yX1_init : MethodName := ⟨RX1, "<init>", "()V"⟩
abbrev cX1_hearerAt : ByteArray := prog_3_method_2_code
def yX1_hearerAt : MethodName := ⟨RX1, "hearerAt", "(I)I"⟩
abbrev cX1_placeOf : ByteArray := prog_3_method_3_code
def yX1_placeOf : MethodName := ⟨RX1, "placeOf", "(I)I"⟩
abbrev cX1_append : ByteArray := prog_3_method_4_code
def yX1_append : MethodName := ⟨RX1, "append", "(I)I"⟩
abbrev cX1_remove : ByteArray := prog_3_method_5_code
def yX1_remove : MethodName := ⟨RX1, "remove", "(I)I"⟩
abbrev cX1_copyLine : ByteArray := prog_3_method_6_code
def yX1_copyLine : MethodName := ⟨RX1, "copyLine", "([I)I"⟩
def RX2 : String := "BellHouse$Queue"
def TX2 : u_T := fun k => match k with
  | 0 => ("BellHouse$Queue", "bellsLaid", "[I", true)
  | 1 => ("BellHouse$Queue", "valuesLaid", "[J", true)
  | 2 => ("BellHouse$Queue", "head", "I", false)
  | _ => ("BellHouse$Queue", "size", "I", false)
def tyX2 : Nat → FieldType := fun k => match k with
  | 0 => .array .int
  | 1 => .array .long
  | 2 => .int
  | _ => .int
theorem nmX2 : ∀ a, a < 4 → ∀ b, b < 4 → a ≠ b → (TX2 a).2.1 ≠ (TX2 b).2.1 := by decide +kernel
theorem tyX2_ok : ∀ k, k < 4 → parseFieldDescriptor (TX2 k).2.2.1 = some (tyX2 k) := by decide +kernel
abbrev cX2_init : ByteArray := prog_4_method_1_code
def yX2_init : MethodName := ⟨RX2, "<init>", "()V"⟩
abbrev cX2_append : ByteArray := prog_4_method_2_code
def yX2_append : MethodName := ⟨RX2, "append", "(IJ)Z"⟩
abbrev cX2_bellAt : ByteArray := prog_4_method_3_code
def yX2_bellAt : MethodName := ⟨RX2, "bellAt", "(I)I"⟩
abbrev cX2_firstBell : ByteArray := prog_4_method_4_code
def yX2_firstBell : MethodName := ⟨RX2, "firstBell", "()I"⟩
abbrev cX2_firstValue : ByteArray := prog_4_method_5_code
def yX2_firstValue : MethodName := ⟨RX2, "firstValue", "()J"⟩
abbrev cX2_dropFirst : ByteArray := prog_4_method_6_code
def yX2_dropFirst : MethodName := ⟨RX2, "dropFirst", "()V"⟩
def RX3 : String := "BellHouse"
def TX3 : u_T := fun k => match k with
  | 0 => ("BellHouse", "tallies", "[J", true)
  | 1 => ("BellHouse", "bells", "[LBellHouse$Bell;", true)
  | 2 => ("BellHouse", "queue", "LBellHouse$Queue;", true)
  | 3 => ("BellHouse", "ownActs", "[LBellHouse$Act;", true)
  | 4 => ("BellHouse", "actsHad", "[LBellHouse$Act;", true)
  | 5 => ("BellHouse", "hearers", "I", false)
  | 6 => ("BellHouse", "toldRows", "[[I", true)
  | 7 => ("BellHouse", "ringingsUnderWay", "I", false)
  | 8 => ("BellHouse", "stepsOfCall", "I", false)
  | 9 => ("BellHouse", "stepsEver", "I", false)
  | 10 => ("BellHouse", "ringingsEver", "I", false)
  | 11 => ("BellHouse", "misses", "I", false)
  | 12 => ("BellHouse", "failedCalls", "I", false)
  | 13 => ("BellHouse", "metByTries", "I", false)
  | 14 => ("BellHouse", "stops", "I", false)
  | 15 => ("BellHouse", "latestFailure", "I", false)
  | _ => ("BellHouse", "failuresMet", "I", false)
def tyX3 : Nat → FieldType := fun k => match k with
  | 0 => .array .long
  | 1 => .array (.object "BellHouse$Bell")
  | 2 => .object "BellHouse$Queue"
  | 3 => .array (.object "BellHouse$Act")
  | 4 => .array (.object "BellHouse$Act")
  | 5 => .int
  | 6 => .array (.array .int)
  | 7 => .int
  | 8 => .int
  | 9 => .int
  | 10 => .int
  | 11 => .int
  | 12 => .int
  | 13 => .int
  | 14 => .int
  | 15 => .int
  | _ => .int
theorem nmX3 : ∀ a, a < 17 → ∀ b, b < 17 → a ≠ b → (TX3 a).2.1 ≠ (TX3 b).2.1 := by decide +kernel
theorem tyX3_ok : ∀ k, k < 17 → parseFieldDescriptor (TX3 k).2.2.1 = some (tyX3 k) := by decide +kernel
abbrev cX3_init : ByteArray := prog_1_method_1_code
def yX3_init : MethodName := ⟨RX3, "<init>", "()V"⟩
abbrev cX3_tally : ByteArray := prog_1_method_2_code
def yX3_tally : MethodName := ⟨RX3, "tally", "(IJ)I"⟩
abbrev cX3_way : ByteArray := prog_1_method_3_code
def yX3_way : MethodName := ⟨RX3, "way", "(II)I"⟩
abbrev cX3_hearer : ByteArray := prog_1_method_4_code
def yX3_hearer : MethodName := ⟨RX3, "hearer", "(III)I"⟩
abbrev cX3_bind : ByteArray := prog_1_method_5_code
def yX3_bind : MethodName := ⟨RX3, "bind", "(II)I"⟩
abbrev cX3_leave : ByteArray := prog_1_method_6_code
def yX3_leave : MethodName := ⟨RX3, "leave", "(II)I"⟩
abbrev cX3_take : ByteArray := prog_1_method_7_code
def yX3_take : MethodName := ⟨RX3, "take", "(I)I"⟩
abbrev cX3_lend : ByteArray := prog_1_method_8_code
def yX3_lend : MethodName := ⟨RX3, "lend", "(II)I"⟩
abbrev cX3_ring : ByteArray := prog_1_method_9_code
def yX3_ring : MethodName := ⟨RX3, "ring", "(IJ)I"⟩
abbrev cX3_drain : ByteArray := prog_1_method_10_code
def yX3_drain : MethodName := ⟨RX3, "drain", "()I"⟩
abbrev cX3_act : ByteArray := prog_1_method_11_code
def yX3_act : MethodName := ⟨RX3, "act", "(IJ)I"⟩
abbrev cX3_get : ByteArray := prog_1_method_12_code
def yX3_get : MethodName := ⟨RX3, "get", "(I)J"⟩
abbrev cX3_line : ByteArray := prog_1_method_13_code
def yX3_line : MethodName := ⟨RX3, "line", "(II)I"⟩
abbrev cX3_queued : ByteArray := prog_1_method_14_code
def yX3_queued : MethodName := ⟨RX3, "queued", "(I)I"⟩
abbrev cX3_count : ByteArray := prog_1_method_15_code
def yX3_count : MethodName := ⟨RX3, "count", "(I)I"⟩
abbrev cX3_done : ByteArray := prog_1_method_16_code
def yX3_done : MethodName := ⟨RX3, "done", "(I)I"⟩
abbrev cX3_isTally : ByteArray := prog_1_method_17_code
def yX3_isTally : MethodName := ⟨RX3, "isTally", "(J)Z"⟩
abbrev cX3_isBell : ByteArray := prog_1_method_18_code
def yX3_isBell : MethodName := ⟨RX3, "isBell", "(I)Z"⟩
abbrev cX3_isHearer : ByteArray := prog_1_method_19_code
def yX3_isHearer : MethodName := ⟨RX3, "isHearer", "(I)Z"⟩
abbrev cX3_canBeMade : ByteArray := prog_1_method_20_code
def yX3_canBeMade : MethodName := ⟨RX3, "canBeMade", "(III)Z"⟩
abbrev cX3_makeHearer : ByteArray := prog_1_method_21_code
def yX3_makeHearer : MethodName := ⟨RX3, "makeHearer", "(III)I"⟩
abbrev cX3_answerOfCall : ByteArray := prog_1_method_22_code
def yX3_answerOfCall : MethodName := ⟨RX3, "answerOfCall", "(I)I"⟩
abbrev cX3_ringQueueAfter : ByteArray := prog_1_method_23_code
def yX3_ringQueueAfter : MethodName := ⟨RX3, "ringQueueAfter", "(I)I"⟩
abbrev cX3_ringBell : ByteArray := prog_1_method_24_code
def yX3_ringBell : MethodName := ⟨RX3, "ringBell", "(IJ)I"⟩
abbrev cX3_perform : ByteArray := prog_1_method_25_code
def yX3_perform : MethodName := ⟨RX3, "perform", "(LBellHouse$Act;J)I"⟩
abbrev cX3_performAlone : ByteArray := prog_1_method_26_code
def yX3_performAlone : MethodName := ⟨RX3, "performAlone", "(LBellHouse$Act;J)I"⟩
abbrev cX3_shareTally : ByteArray := prog_1_method_27_code
def yX3_shareTally : MethodName := ⟨RX3, "shareTally", "(IJ)I"⟩
abbrev cX3_addAtPlace : ByteArray := prog_1_method_28_code
def yX3_addAtPlace : MethodName := ⟨RX3, "addAtPlace", "(JI)I"⟩
abbrev cX3_removeFromAllLines : ByteArray := prog_1_method_29_code
def yX3_removeFromAllLines : MethodName := ⟨RX3, "removeFromAllLines", "(I)V"⟩
abbrev cX3_metByBell : ByteArray := prog_1_method_30_code
def yX3_metByBell : MethodName := ⟨RX3, "metByBell", "(LBellHouse$Bell;I)I"⟩
abbrev cX3_metByTry : ByteArray := prog_1_method_31_code
def yX3_metByTry : MethodName := ⟨RX3, "metByTry", "(LBellHouse$Act;I)I"⟩
abbrev cX3_canBeMet : ByteArray := prog_1_method_32_code
def yX3_canBeMet : MethodName := ⟨RX3, "canBeMet", "(I)Z"⟩
abbrev cX3_wellIfStopped : ByteArray := prog_1_method_33_code
def yX3_wellIfStopped : MethodName := ⟨RX3, "wellIfStopped", "(I)I"⟩
def RX4 : String := "BellHouseModel"
def TX4 : u_T := fun k => match k with
  | 0 => ("BellHouseModel", "tallies", "[J", true)
  | 1 => ("BellHouseModel", "ways", "[I", true)
  | 2 => ("BellHouseModel", "lines", "[I", true)
  | 3 => ("BellHouseModel", "long0", "[I", true)
  | 4 => ("BellHouseModel", "many", "I", false)
  | 5 => ("BellHouseModel", "sorts", "[I", true)
  | 6 => ("BellHouseModel", "as", "[I", true)
  | 7 => ("BellHouseModel", "bs", "[I", true)
  | 8 => ("BellHouseModel", "was", "[J", true)
  | 9 => ("BellHouseModel", "one", "[I", true)
  | 10 => ("BellHouseModel", "two", "[I", true)
  | 11 => ("BellHouseModel", "times", "[I", true)
  | 12 => ("BellHouseModel", "began", "[I", true)
  | 13 => ("BellHouseModel", "has", "[I", true)
  | 14 => ("BellHouseModel", "queueBell", "[I", true)
  | 15 => ("BellHouseModel", "queueValue", "[J", true)
  | 16 => ("BellHouseModel", "queue", "I", false)
  | 17 => ("BellHouseModel", "pile", "I", false)
  | 18 => ("BellHouseModel", "what", "[I", true)
  | 19 => ("BellHouseModel", "of", "[I", true)
  | 20 => ("BellHouseModel", "with", "[J", true)
  | 21 => ("BellHouseModel", "next", "[I", true)
  | 22 => ("BellHouseModel", "size", "[I", true)
  | 23 => ("BellHouseModel", "rows", "[I", true)
  | 24 => ("BellHouseModel", "deep", "I", false)
  | 25 => ("BellHouseModel", "steps", "I", false)
  | 26 => ("BellHouseModel", "failure", "I", false)
  | 27 => ("BellHouseModel", "stops", "Z", false)
  | 28 => ("BellHouseModel", "beginning", "I", false)
  | 29 => ("BellHouseModel", "value", "J", false)
  | _ => ("BellHouseModel", "counts", "[I", true)
def tyX4 : Nat → FieldType := fun k => match k with
  | 0 => .array .long
  | 1 => .array .int
  | 2 => .array .int
  | 3 => .array .int
  | 4 => .int
  | 5 => .array .int
  | 6 => .array .int
  | 7 => .array .int
  | 8 => .array .long
  | 9 => .array .int
  | 10 => .array .int
  | 11 => .array .int
  | 12 => .array .int
  | 13 => .array .int
  | 14 => .array .int
  | 15 => .array .long
  | 16 => .int
  | 17 => .int
  | 18 => .array .int
  | 19 => .array .int
  | 20 => .array .long
  | 21 => .array .int
  | 22 => .array .int
  | 23 => .array .int
  | 24 => .int
  | 25 => .int
  | 26 => .int
  | 27 => .boolean
  | 28 => .int
  | 29 => .long
  | _ => .array .int
theorem nmX4 : ∀ a, a < 31 → ∀ b, b < 31 → a ≠ b → (TX4 a).2.1 ≠ (TX4 b).2.1 := by decide +kernel
theorem tyX4_ok : ∀ k, k < 31 → parseFieldDescriptor (TX4 k).2.2.1 = some (tyX4 k) := by decide +kernel
abbrev cX4_init : ByteArray := prog_6_method_1_code
def yX4_init : MethodName := ⟨RX4, "<init>", "()V"⟩
abbrev cX4_in : ByteArray := prog_6_method_3_code
def yX4_in : MethodName := ⟨RX4, "in", "(JJJ)Z"⟩
abbrev cX4_isHearer : ByteArray := prog_6_method_4_code
def yX4_isHearer : MethodName := ⟨RX4, "isHearer", "(I)Z"⟩
abbrev cX4_isBell : ByteArray := prog_6_method_5_code
def yX4_isBell : MethodName := ⟨RX4, "isBell", "(I)Z"⟩
abbrev cX4_isTally : ByteArray := prog_6_method_6_code
def yX4_isTally : MethodName := ⟨RX4, "isTally", "(I)Z"⟩
abbrev cX4_tally : ByteArray := prog_6_method_7_code
def yX4_tally : MethodName := ⟨RX4, "tally", "(IJ)I"⟩
abbrev cX4_way : ByteArray := prog_6_method_8_code
def yX4_way : MethodName := ⟨RX4, "way", "(II)I"⟩
abbrev cX4_make : ByteArray := prog_6_method_9_code
def yX4_make : MethodName := ⟨RX4, "make", "(III)V"⟩
abbrev cX4_hearer : ByteArray := prog_6_method_10_code
def yX4_hearer : MethodName := ⟨RX4, "hearer", "(III)I"⟩
abbrev cX4_placeOf : ByteArray := prog_6_method_11_code
def yX4_placeOf : MethodName := ⟨RX4, "placeOf", "(II)I"⟩
abbrev cX4_put : ByteArray := prog_6_method_12_code
def yX4_put : MethodName := ⟨RX4, "put", "(II)V"⟩
abbrev cX4_out : ByteArray := prog_6_method_13_code
def yX4_out : MethodName := ⟨RX4, "out", "(II)I"⟩
abbrev cX4_bind : ByteArray := prog_6_method_14_code
def yX4_bind : MethodName := ⟨RX4, "bind", "(II)I"⟩
abbrev cX4_leave : ByteArray := prog_6_method_15_code
def yX4_leave : MethodName := ⟨RX4, "leave", "(II)I"⟩
abbrev cX4_take : ByteArray := prog_6_method_16_code
def yX4_take : MethodName := ⟨RX4, "take", "(I)I"⟩
abbrev cX4_lend : ByteArray := prog_6_method_17_code
def yX4_lend : MethodName := ⟨RX4, "lend", "(II)I"⟩
abbrev cX4_heap : ByteArray := prog_6_method_18_code
def yX4_heap : MethodName := ⟨RX4, "heap", "(IIJ)V"⟩
abbrev cX4_rings : ByteArray := prog_6_method_19_code
def yX4_rings : MethodName := ⟨RX4, "rings", "(IJ)V"⟩
abbrev cX4_begins : ByteArray := prog_6_method_20_code
def yX4_begins : MethodName := ⟨RX4, "begins", "(IJ)V"⟩
abbrev cX4_does : ByteArray := prog_6_method_21_code
def yX4_does : MethodName := ⟨RX4, "does", "()V"⟩
abbrev cX4_doesOthers : ByteArray := prog_6_method_22_code
def yX4_doesOthers : MethodName := ⟨RX4, "doesOthers", "(IJ)V"⟩
abbrev cX4_fails : ByteArray := prog_6_method_23_code
def yX4_fails : MethodName := ⟨RX4, "fails", "()V"⟩
abbrev cX4_stop : ByteArray := prog_6_method_24_code
def yX4_stop : MethodName := ⟨RX4, "stop", "()V"⟩
abbrev cX4_goesOn : ByteArray := prog_6_method_25_code
def yX4_goesOn : MethodName := ⟨RX4, "goesOn", "()V"⟩
abbrev cX4_works : ByteArray := prog_6_method_26_code
def yX4_works : MethodName := ⟨RX4, "works", "()V"⟩
abbrev cX4_ready : ByteArray := prog_6_method_27_code
def yX4_ready : MethodName := ⟨RX4, "ready", "()V"⟩
abbrev cX4_all : ByteArray := prog_6_method_28_code
def yX4_all : MethodName := ⟨RX4, "all", "()I"⟩
abbrev cX4_ring : ByteArray := prog_6_method_29_code
def yX4_ring : MethodName := ⟨RX4, "ring", "(IJ)I"⟩
abbrev cX4_drain : ByteArray := prog_6_method_30_code
def yX4_drain : MethodName := ⟨RX4, "drain", "()I"⟩
abbrev cX4_act : ByteArray := prog_6_method_31_code
def yX4_act : MethodName := ⟨RX4, "act", "(IJ)I"⟩
abbrev cX4_get : ByteArray := prog_6_method_32_code
def yX4_get : MethodName := ⟨RX4, "get", "(I)J"⟩
abbrev cX4_line : ByteArray := prog_6_method_33_code
def yX4_line : MethodName := ⟨RX4, "line", "(II)I"⟩
abbrev cX4_queued : ByteArray := prog_6_method_34_code
def yX4_queued : MethodName := ⟨RX4, "queued", "(I)I"⟩
abbrev cX4_count : ByteArray := prog_6_method_35_code
def yX4_count : MethodName := ⟨RX4, "count", "(I)I"⟩
abbrev cX4_done : ByteArray := prog_6_method_36_code
def yX4_done : MethodName := ⟨RX4, "done", "(I)I"⟩
def RJ9 : String := "java/lang/Math"
def TJ9 : u_T := fun k => match k with
  | _ => ("", "", "", false)
def tyJ9 : Nat → FieldType := fun k => match k with
  | _ => .int
theorem nmJ9 : ∀ a, a < 0 → ∀ b, b < 0 → a ≠ b → (TJ9 a).2.1 ≠ (TJ9 b).2.1 := by decide +kernel
theorem tyJ9_ok : ∀ k, k < 0 → parseFieldDescriptor (TJ9 k).2.2.1 = some (tyJ9 k) := by decide +kernel
abbrev cJ9_max_7cf53 : ByteArray := prog_7_method_65_code
def yJ9_max_7cf53 : MethodName := ⟨RJ9, "max", "(II)I"⟩
abbrev cJ9_max_f86c9 : ByteArray := prog_7_method_66_code
def yJ9_max_f86c9 : MethodName := ⟨RJ9, "max", "(JJ)J"⟩
def RL : String := "BellHouseLaw"
abbrev cL_law : ByteArray := code
def yL_law : MethodName := ⟨RL, "law", "([I)Z"⟩
abbrev vwCl : List vw_C := [(RX0, TX0, 7), (RX1, TX1, 3), (RX2, TX2, 4), (RX3, TX3, 17), (RX4, TX4, 31)]
end
section
/-! the mini-machine's tables: a method is (its class, its name, its bytes, its locals, what it returns, how many parameters) -/
abbrev mm_T : Type := Nat × MethodName × ByteArray × Nat × Option FieldType × Nat
def mX0_init : mm_T := (0, yX0_init, cX0_init, 8, none, 6)
def mX1_init : mm_T := (1, yX1_init, cX1_init, 1, none, 0)
def mX1_hearerAt : mm_T := (1, yX1_hearerAt, cX1_hearerAt, 2, (some .int), 1)
def mX1_placeOf : mm_T := (1, yX1_placeOf, cX1_placeOf, 3, (some .int), 1)
def mX1_append : mm_T := (1, yX1_append, cX1_append, 2, (some .int), 1)
def mX1_remove : mm_T := (1, yX1_remove, cX1_remove, 4, (some .int), 1)
def mX1_copyLine : mm_T := (1, yX1_copyLine, cX1_copyLine, 3, (some .int), 1)
def mX2_init : mm_T := (2, yX2_init, cX2_init, 1, none, 0)
def mX2_append : mm_T := (2, yX2_append, cX2_append, 5, (some .boolean), 2)
def mX2_bellAt : mm_T := (2, yX2_bellAt, cX2_bellAt, 2, (some .int), 1)
def mX2_firstBell : mm_T := (2, yX2_firstBell, cX2_firstBell, 1, (some .int), 0)
def mX2_firstValue : mm_T := (2, yX2_firstValue, cX2_firstValue, 1, (some .long), 0)
def mX2_dropFirst : mm_T := (2, yX2_dropFirst, cX2_dropFirst, 1, none, 0)
def mX3_init : mm_T := (3, yX3_init, cX3_init, 2, none, 0)
def mX3_tally : mm_T := (3, yX3_tally, cX3_tally, 4, (some .int), 2)
def mX3_way : mm_T := (3, yX3_way, cX3_way, 4, (some .int), 2)
def mX3_hearer : mm_T := (3, yX3_hearer, cX3_hearer, 4, (some .int), 3)
def mX3_bind : mm_T := (3, yX3_bind, cX3_bind, 3, (some .int), 2)
def mX3_leave : mm_T := (3, yX3_leave, cX3_leave, 3, (some .int), 2)
def mX3_take : mm_T := (3, yX3_take, cX3_take, 3, (some .int), 1)
def mX3_lend : mm_T := (3, yX3_lend, cX3_lend, 3, (some .int), 2)
def mX3_ring : mm_T := (3, yX3_ring, cX3_ring, 4, (some .int), 2)
def mX3_drain : mm_T := (3, yX3_drain, cX3_drain, 1, (some .int), 0)
def mX3_act : mm_T := (3, yX3_act, cX3_act, 4, (some .int), 2)
def mX3_get : mm_T := (3, yX3_get, cX3_get, 2, (some .long), 1)
def mX3_line : mm_T := (3, yX3_line, cX3_line, 3, (some .int), 2)
def mX3_queued : mm_T := (3, yX3_queued, cX3_queued, 2, (some .int), 1)
def mX3_count : mm_T := (3, yX3_count, cX3_count, 2, (some .int), 1)
def mX3_done : mm_T := (3, yX3_done, cX3_done, 2, (some .int), 1)
def mX3_isTally : mm_T := (3, yX3_isTally, cX3_isTally, 2, (some .boolean), 1)
def mX3_isBell : mm_T := (3, yX3_isBell, cX3_isBell, 1, (some .boolean), 1)
def mX3_isHearer : mm_T := (3, yX3_isHearer, cX3_isHearer, 2, (some .boolean), 1)
def mX3_canBeMade : mm_T := (3, yX3_canBeMade, cX3_canBeMade, 4, (some .boolean), 3)
def mX3_makeHearer : mm_T := (3, yX3_makeHearer, cX3_makeHearer, 9, (some .int), 3)
def mX3_answerOfCall : mm_T := (3, yX3_answerOfCall, cX3_answerOfCall, 2, (some .int), 1)
def mX3_ringQueueAfter : mm_T := (3, yX3_ringQueueAfter, cX3_ringQueueAfter, 8, (some .int), 1)
def mX3_ringBell : mm_T := (3, yX3_ringBell, cX3_ringBell, 10, (some .int), 2)
def mX3_perform : mm_T := (3, yX3_perform, cX3_perform, 5, (some .int), 2)
def mX3_performAlone : mm_T := (3, yX3_performAlone, cX3_performAlone, 4, (some .int), 2)
def mX3_shareTally : mm_T := (3, yX3_shareTally, cX3_shareTally, 4, (some .int), 2)
def mX3_addAtPlace : mm_T := (3, yX3_addAtPlace, cX3_addAtPlace, 4, (some .int), 2)
def mX3_removeFromAllLines : mm_T := (3, yX3_removeFromAllLines, cX3_removeFromAllLines, 3, none, 1)
def mX3_metByBell : mm_T := (3, yX3_metByBell, cX3_metByBell, 3, (some .int), 2)
def mX3_metByTry : mm_T := (3, yX3_metByTry, cX3_metByTry, 3, (some .int), 2)
def mX3_canBeMet : mm_T := (3, yX3_canBeMet, cX3_canBeMet, 1, (some .boolean), 1)
def mX3_wellIfStopped : mm_T := (3, yX3_wellIfStopped, cX3_wellIfStopped, 1, (some .int), 1)
def mX4_init : mm_T := (4, yX4_init, cX4_init, 1, none, 0)
def mX4_in : mm_T := (4, yX4_in, cX4_in, 6, (some .boolean), 3)
def mX4_isHearer : mm_T := (4, yX4_isHearer, cX4_isHearer, 2, (some .boolean), 1)
def mX4_isBell : mm_T := (4, yX4_isBell, cX4_isBell, 1, (some .boolean), 1)
def mX4_isTally : mm_T := (4, yX4_isTally, cX4_isTally, 1, (some .boolean), 1)
def mX4_tally : mm_T := (4, yX4_tally, cX4_tally, 4, (some .int), 2)
def mX4_way : mm_T := (4, yX4_way, cX4_way, 4, (some .int), 2)
def mX4_make : mm_T := (4, yX4_make, cX4_make, 5, none, 3)
def mX4_hearer : mm_T := (4, yX4_hearer, cX4_hearer, 4, (some .int), 3)
def mX4_placeOf : mm_T := (4, yX4_placeOf, cX4_placeOf, 5, (some .int), 2)
def mX4_put : mm_T := (4, yX4_put, cX4_put, 3, none, 2)
def mX4_out : mm_T := (4, yX4_out, cX4_out, 5, (some .int), 2)
def mX4_bind : mm_T := (4, yX4_bind, cX4_bind, 3, (some .int), 2)
def mX4_leave : mm_T := (4, yX4_leave, cX4_leave, 3, (some .int), 2)
def mX4_take : mm_T := (4, yX4_take, cX4_take, 3, (some .int), 1)
def mX4_lend : mm_T := (4, yX4_lend, cX4_lend, 3, (some .int), 2)
def mX4_heap : mm_T := (4, yX4_heap, cX4_heap, 5, none, 3)
def mX4_rings : mm_T := (4, yX4_rings, cX4_rings, 5, none, 2)
def mX4_begins : mm_T := (4, yX4_begins, cX4_begins, 4, none, 2)
def mX4_does : mm_T := (4, yX4_does, cX4_does, 6, none, 0)
def mX4_doesOthers : mm_T := (4, yX4_doesOthers, cX4_doesOthers, 8, none, 2)
def mX4_fails : mm_T := (4, yX4_fails, cX4_fails, 3, none, 0)
def mX4_stop : mm_T := (4, yX4_stop, cX4_stop, 2, none, 0)
def mX4_goesOn : mm_T := (4, yX4_goesOn, cX4_goesOn, 3, none, 0)
def mX4_works : mm_T := (4, yX4_works, cX4_works, 3, none, 0)
def mX4_ready : mm_T := (4, yX4_ready, cX4_ready, 1, none, 0)
def mX4_all : mm_T := (4, yX4_all, cX4_all, 5, (some .int), 0)
def mX4_ring : mm_T := (4, yX4_ring, cX4_ring, 4, (some .int), 2)
def mX4_drain : mm_T := (4, yX4_drain, cX4_drain, 1, (some .int), 0)
def mX4_act : mm_T := (4, yX4_act, cX4_act, 4, (some .int), 2)
def mX4_get : mm_T := (4, yX4_get, cX4_get, 2, (some .long), 1)
def mX4_line : mm_T := (4, yX4_line, cX4_line, 3, (some .int), 2)
def mX4_queued : mm_T := (4, yX4_queued, cX4_queued, 2, (some .int), 1)
def mX4_count : mm_T := (4, yX4_count, cX4_count, 2, (some .int), 1)
def mX4_done : mm_T := (4, yX4_done, cX4_done, 2, (some .int), 1)
def mJ9_max_7cf53 : mm_T := (6, yJ9_max_7cf53, cJ9_max_7cf53, 2, (some .int), 2)
def mJ9_max_f86c9 : mm_T := (6, yJ9_max_f86c9, cJ9_max_f86c9, 4, (some .long), 2)
def mL_law : mm_T := (5, yL_law, cL_law, 4, some .boolean, 1)
def mm_M : List mm_T := [mX0_init, mX1_init, mX1_hearerAt, mX1_placeOf, mX1_append, mX1_remove, mX1_copyLine, mX2_init, mX2_append, mX2_bellAt, mX2_firstBell, mX2_firstValue, mX2_dropFirst, mX3_init, mX3_tally, mX3_way, mX3_hearer, mX3_bind, mX3_leave, mX3_take, mX3_lend, mX3_ring, mX3_drain, mX3_act, mX3_get, mX3_line, mX3_queued, mX3_count, mX3_done, mX3_isTally, mX3_isBell, mX3_isHearer, mX3_canBeMade, mX3_makeHearer, mX3_answerOfCall, mX3_ringQueueAfter, mX3_ringBell, mX3_perform, mX3_performAlone, mX3_shareTally, mX3_addAtPlace, mX3_removeFromAllLines, mX3_metByBell, mX3_metByTry, mX3_canBeMet, mX3_wellIfStopped, mX4_init, mX4_in, mX4_isHearer, mX4_isBell, mX4_isTally, mX4_tally, mX4_way, mX4_make, mX4_hearer, mX4_placeOf, mX4_put, mX4_out, mX4_bind, mX4_leave, mX4_take, mX4_lend, mX4_heap, mX4_rings, mX4_begins, mX4_does, mX4_doesOthers, mX4_fails, mX4_stop, mX4_goesOn, mX4_works, mX4_ready, mX4_all, mX4_ring, mX4_drain, mX4_act, mX4_get, mX4_line, mX4_queued, mX4_count, mX4_done, mJ9_max_7cf53, mJ9_max_f86c9]
def mm_cn (i : Nat) : String := match i with | 0 => RX0 | 1 => RX1 | 2 => RX2 | 3 => RX3 | 4 => RX4 | 5 => RL | _ => RJ9
def mm_ty (i : Nat) : Nat → FieldType := match i with | 0 => tyX0 | 1 => tyX1 | 2 => tyX2 | 3 => tyX3 | _ => tyX4
def mm_F (i : Nat) : u_T := match i with | 0 => TX0 | 1 => TX1 | 2 => TX2 | 3 => TX3 | _ => TX4
def mm_N (i : Nat) : Nat := match i with | 0 => 7 | 1 => 3 | 2 => 4 | 3 => 17 | _ => 31
/-- class, pool index: class of the object, place of the field -/
def mm_fldL : List (Nat × Nat × Nat × Nat) := [(2, 9, 2, 0), (2, 15, 2, 1), (2, 23, 2, 2), (2, 19, 2, 3), (3, 121, 2, 3), (1, 9, 1, 0), (1, 19, 1, 1), (1, 15, 1, 2), (3, 53, 1, 2), (0, 7, 0, 0), (3, 160, 0, 0), (0, 13, 0, 1), (3, 163, 0, 1), (0, 16, 0, 2), (3, 166, 0, 2), (0, 19, 0, 3), (3, 192, 0, 3), (0, 23, 0, 4), (3, 169, 0, 4), (0, 27, 0, 5), (3, 179, 0, 5), (3, 127, 0, 6), (3, 9, 3, 0), (3, 15, 3, 1), (3, 22, 3, 2), (3, 28, 3, 3), (3, 32, 3, 4), (3, 61, 3, 5), (3, 37, 3, 6), (3, 146, 3, 7), (3, 77, 3, 8), (3, 103, 3, 9), (3, 106, 3, 10), (3, 109, 3, 11), (3, 112, 3, 12), (3, 115, 3, 13), (3, 118, 3, 14), (3, 124, 3, 15), (3, 74, 3, 16), (4, 7, 4, 0), (4, 13, 4, 1), (4, 17, 4, 2), (4, 20, 4, 3), (4, 81, 4, 4), (4, 23, 4, 5), (4, 26, 4, 6), (4, 29, 4, 7), (4, 32, 4, 8), (4, 35, 4, 9), (4, 38, 4, 10), (4, 41, 4, 11), (4, 44, 4, 12), (4, 47, 4, 13), (4, 50, 4, 14), (4, 53, 4, 15), (4, 147, 4, 16), (4, 120, 4, 17), (4, 56, 4, 18), (4, 59, 4, 19), (4, 62, 4, 20), (4, 65, 4, 21), (4, 68, 4, 22), (4, 71, 4, 23), (4, 123, 4, 24), (4, 140, 4, 25), (4, 126, 4, 26), (4, 150, 4, 27), (4, 133, 4, 28), (4, 136, 4, 29), (4, 74, 4, 30)]
/-- class, pool index, how (0 static, 1 virtual, 2 a constructor, 3 a nest mate's constructor), the method -/
def mm_mthL : List (Nat × Nat × Nat × mm_T) := [(5, 9, 2, mX3_init), (3, 41, 1, mX3_makeHearer), (3, 132, 2, mX0_init), (5, 15, 1, mX3_tally), (3, 45, 0, mX3_isTally), (5, 20, 1, mX3_way), (3, 49, 0, mX3_isBell), (5, 25, 1, mX3_hearer), (3, 57, 1, mX3_canBeMade), (3, 64, 1, mX3_isHearer), (5, 30, 1, mX3_bind), (3, 67, 1, mX1_append), (1, 22, 1, mX1_placeOf), (5, 34, 1, mX3_leave), (3, 71, 1, mX1_remove), (5, 38, 1, mX3_take), (5, 43, 1, mX3_lend), (5, 47, 1, mX3_ring), (3, 80, 1, mX3_ringBell), (3, 149, 1, mX1_copyLine), (3, 153, 1, mX1_placeOf), (3, 90, 1, mX3_perform), (3, 182, 1, mX3_metByTry), (3, 210, 0, mX3_canBeMet), (3, 186, 1, mX3_performAlone), (3, 196, 1, mX3_shareTally), (3, 199, 1, mX3_addAtPlace), (3, 203, 1, mX2_append), (3, 206, 1, mX3_removeFromAllLines), (3, 156, 1, mX3_metByBell), (3, 94, 0, mX3_wellIfStopped), (3, 84, 1, mX3_ringQueueAfter), (3, 135, 1, mX2_firstBell), (3, 139, 1, mX2_firstValue), (3, 143, 1, mX2_dropFirst), (3, 87, 1, mX3_answerOfCall), (5, 51, 1, mX3_drain), (5, 56, 1, mX3_act), (5, 60, 1, mX3_get), (5, 65, 1, mX3_line), (3, 97, 1, mX1_hearerAt), (5, 69, 1, mX3_queued), (3, 100, 1, mX2_bellAt), (5, 73, 1, mX3_count), (5, 77, 1, mX3_done), (5, 12, 2, mX4_init), (4, 77, 1, mX4_make), (4, 85, 0, mX4_in), (5, 19, 1, mX4_tally), (4, 93, 0, mX4_isTally), (5, 24, 1, mX4_way), (4, 97, 0, mX4_isBell), (5, 29, 1, mX4_hearer), (4, 106, 1, mX4_isHearer), (5, 33, 1, mX4_bind), (4, 109, 1, mX4_placeOf), (4, 113, 1, mX4_put), (5, 37, 1, mX4_leave), (4, 117, 1, mX4_out), (5, 42, 1, mX4_take), (5, 46, 1, mX4_lend), (5, 50, 1, mX4_ring), (4, 175, 1, mX4_ready), (4, 143, 1, mX4_rings), (4, 129, 1, mX4_heap), (4, 178, 1, mX4_all), (4, 172, 1, mX4_works), (4, 160, 1, mX4_fails), (4, 163, 1, mX4_stop), (4, 166, 1, mX4_does), (4, 154, 1, mX4_doesOthers), (4, 157, 1, mX4_begins), (4, 169, 1, mX4_goesOn), (5, 55, 1, mX4_drain), (5, 59, 1, mX4_act), (5, 64, 1, mX4_get), (5, 68, 1, mX4_line), (5, 72, 1, mX4_queued), (5, 76, 1, mX4_count), (5, 80, 1, mX4_done), (3, 21, 3, mX2_init), (3, 40, 3, mX1_init)]
/-- class, pool index, 0 Math.max of ints, 1 of longs -/
def mm_maxL : List (Nat × Nat × Nat) := [(3, 173, 0), (3, 189, 1)]
def mm_objL : List (Nat × Nat) := [(3, 1), (2, 3), (1, 3), (0, 1), (4, 1)]
/-- class, pool index, the class that is named (9: int[][]) -/
def mm_clsL : List (Nat × Nat × Nat) := [(5, 7, 3), (3, 13, 1), (3, 19, 2), (3, 26, 0), (3, 35, 9), (5, 10, 4)]
def mm_ldcL : List (Nat × Nat × Int64) := [(3, 130, 8), (4, 100, 8), (4, 102, 12), (4, 91, 7), (4, 89, 5), (4, 104, 14), (4, 182, 9), (5, 13, 4294967295)]
end
section
/-! THE MINI-MACHINE: a pure interpreter of the bytecode that the claim reaches. A cell is (kind, contents): kinds 0 to 4 are the objects of the five classes (contents: the fields in order), 5 int[], 6 long[], 7 Act[], 8 Bell[], 9 int[][]. A heap is (the next address, slots used, cells). Address 0 is the script, which lies apart. -/
abbrev mm_C : Type := Nat × List Value
abbrev mm_H : Type := Nat × Nat × (Nat → Option mm_C)
abbrev mm_L : Type := List (Nat × Value)
abbrev mm_R : Type := (Nat × mm_L × List Value × mm_H) ⊕ ((mm_T × List Value × List Value) ⊕ Option Value)
def mm_up (h : mm_H) (a : Nat) (c : mm_C) : mm_H := (h.1, h.2.1, fun x => if x = a then some c else h.2.2 x)
def mm_new (h : mm_H) (c : mm_C) : mm_H := (h.1 + 1, h.2.1 + c.2.length, fun x => if x = h.1 then some c else h.2.2 x)
def mm_lk (ls : mm_L) (i : Nat) : Option Value := (ls.find? (fun q => q.1 == i)).map (fun q => q.2)
def mm_st1 (ls : mm_L) (i : Nat) (v : Value) : mm_L := (i, v) :: ls.filter (fun q => !(q.1 == i) && !(q.1 + 1 == i && q.2.category == 2))
def mm_st2 (ls : mm_L) (i : Nat) (v : Value) : mm_L := (i, v) :: ls.filter (fun q => !(q.1 == i) && (!(q.1 == i + 1) && !(q.1 + 1 == i && q.2.category == 2)))
def mm_fld (o i : Nat) : Option (Nat × Nat) := (mm_fldL.find? (fun e => e.1 == o && e.2.1 == i)).map (fun e => e.2.2)
def mm_mth (o i : Nat) : Option (Nat × mm_T) := (mm_mthL.find? (fun e => e.1 == o && e.2.1 == i)).map (fun e => e.2.2)
def mm_cls (o i : Nat) : Option Nat := (mm_clsL.find? (fun e => e.1 == o && e.2.1 == i)).map (fun e => e.2.2)
def mm_ldc (o i : Nat) : Option Int64 := (mm_ldcL.find? (fun e => e.1 == o && e.2.1 == i)).map (fun e => e.2.2)
def mm_max (o i : Nat) : Option Nat := (mm_maxL.find? (fun e => e.1 == o && e.2.1 == i)).map (fun e => e.2.2)
def mm_df (i : Nat) : List Value := (List.range (mm_N i)).map (fun k => defaultValue (mm_ty i k))
def mm_ld (ty pc : Nat) (ls : mm_L) (st : List Value) (h : mm_H) (i : Nat) : Option mm_R := match ty, mm_lk ls i with
  | 0, some (.int x) => some (.inl (pc, ls, .int x :: st, h))
  | 1, some (.long x) => some (.inl (pc, ls, .long x :: st, h))
  | 2, some (.ref x) => some (.inl (pc, ls, .ref x :: st, h))
  | 2, some .null => some (.inl (pc, ls, .null :: st, h))
  | _, _ => none
def mm_sto (ty nL pc : Nat) (ls : mm_L) (st : List Value) (h : mm_H) (i : Nat) : Option mm_R := match ty, st with
  | 0, .int x :: r => if i < nL then some (.inl (pc, mm_st1 ls i (.int x), r, h)) else none
  | 1, .long x :: r => if i + 1 < nL then some (.inl (pc, mm_st2 ls i (.long x), r, h)) else none
  | 2, .ref x :: r => if i < nL then some (.inl (pc, mm_st1 ls i (.ref x), r, h)) else none
  | 2, .null :: r => if i < nL then some (.inl (pc, mm_st1 ls i .null, r, h)) else none
  | _, _ => none
def mm_cmp (c : Jvm.ClassFile.Cond) (x y : Int32) : Bool := match c with
  | .eq => decide (x = y)
  | .ne => decide (¬ x = y)
  | .lt => decide (x < y)
  | .ge => decide (y ≤ x)
  | .gt => decide (y < x)
  | .le => decide (x ≤ y)
def mm_go (pc : Nat) (off : Int) (ls : mm_L) (st : List Value) (h : mm_H) : Option mm_R := if 0 ≤ (pc : Int) + off then some (.inl (((pc : Int) + off).toNat, ls, st, h)) else none
def mm_bi (ins : Instr) (x y : Int32) : Option Int32 := match ins with
  | .iadd => some (x + y)
  | .isub => some (x - y)
  | .imul => some (x * y)
  | .iand => some (x &&& y)
  | .irem => if y = 0 then none else some (x - x / y * y)
  | _ => none
def mm_bl (ins : Instr) (x y : Int64) : Option Int64 := match ins with
  | .ladd => some (x + y)
  | .land => some (x &&& y)
  | .lor => some (x ||| y)
  | .ldiv => if y = 0 then none else some (x / y)
  | _ => none
def mm_ix (vs : List Value) (j : Int32) : Option Value := if j < 0 then none else vs[j.toNatClampNeg]?
/-- a call: its arguments (this among them) off the stack, the words left below -/
def mm_call (t : mm_T) (n : Nat) (st : List Value) : Option mm_R :=
  if n ≤ st.length ∧ ((st.drop n).map fun v => v.category).sum ≤ 8 ∧ ((st.take n).map fun v => v.category).sum ≤ t.2.2.2.1 then some (.inr (.inl (t, (st.take n).reverse, st.drop n))) else none
/-- the receiver of a call is an object of kind k -/
def mm_this (h : mm_H) (n k : Nat) (st : List Value) : Bool := match st[n]? with
  | some (.ref a) => match h.2.2 a with
    | some c => c.1 == k
    | none => false
  | _ => false
def mm_rows (b : Nat) (k : Nat) : Nat → (Nat → Option mm_C) → Nat → Option mm_C
  | 0, f => f
  | n + 1, f => fun x => if x = b + n then some (5, List.replicate k (.int 0)) else mm_rows b k n f x
def mm_grid (h : mm_H) (n k : Nat) : mm_H := (h.1 + 1 + n, h.2.1 + (n + n * k), fun x => if x = h.1 then some (9, (List.range n).map (fun i => Value.ref (h.1 + 1 + i))) else mm_rows (h.1 + 1) k n h.2.2 x)
def mm_okv (h : mm_H) (k : Nat) (v : Value) : Bool := match v with
  | .null => true
  | .ref a => match h.2.2 a with
    | some c => c.1 == k
    | none => false
  | _ => false
def mm_x (sc : Option (List Int32)) (F : Nat) (M : mm_T) (ins : Instr) (pc : Nat) (ls : mm_L) (st : List Value) (h : mm_H) : Option mm_R := match ins with
  | .iconst n => some (.inl (pc + 1, ls, .int (Int32.ofInt n) :: st, h))
  | .bipush n => some (.inl (pc + 2, ls, .int (Int8.ofInt n).toInt32 :: st, h))
  | .sipush n => some (.inl (pc + 3, ls, .int (Int16.ofInt n).toInt32 :: st, h))
  | .lconst n => some (.inl (pc + 1, ls, .long (Int64.ofNat (n : Nat)) :: st, h))
  | .aconst_null => some (.inl (pc + 1, ls, .null :: st, h))
  | .ldc2_w i => match mm_ldc M.1 i with
    | some x => some (.inl (pc + 3, ls, .long x :: st, h))
    | none => none
  | .iload_n k => mm_ld 0 (pc + 1) ls st h k
  | .iload i => mm_ld 0 (pc + 2) ls st h i
  | .lload_n k => mm_ld 1 (pc + 1) ls st h k
  | .lload i => mm_ld 1 (pc + 2) ls st h i
  | .aload_n k => mm_ld 2 (pc + 1) ls st h k
  | .aload i => mm_ld 2 (pc + 2) ls st h i
  | .istore_n k => mm_sto 0 M.2.2.2.1 (pc + 1) ls st h k
  | .istore i => mm_sto 0 M.2.2.2.1 (pc + 2) ls st h i
  | .lstore_n k => mm_sto 1 M.2.2.2.1 (pc + 1) ls st h k
  | .lstore i => mm_sto 1 M.2.2.2.1 (pc + 2) ls st h i
  | .astore_n k => mm_sto 2 M.2.2.2.1 (pc + 1) ls st h k
  | .astore i => mm_sto 2 M.2.2.2.1 (pc + 2) ls st h i
  | .iinc i n => match mm_lk ls i with
    | some (.int x) => if i < M.2.2.2.1 then some (.inl (pc + 3, mm_st1 ls i (.int (x + Int32.ofInt n)), st, h)) else none
    | _ => none
  | .dup => match st with
    | v :: r => if v.category = 1 then some (.inl (pc + 1, ls, v :: v :: r, h)) else none
    | _ => none
  | .pop => match st with
    | v :: r => if v.category = 1 then some (.inl (pc + 1, ls, r, h)) else none
    | _ => none
  | .dup_x1 => match st with
    | v :: u :: r => if v.category = 1 ∧ u.category = 1 then some (.inl (pc + 1, ls, v :: u :: v :: r, h)) else none
    | _ => none
  | .dup2 => match st with
    | v :: u :: r => if v.category = 1 ∧ u.category = 1 then some (.inl (pc + 1, ls, v :: u :: v :: u :: r, h)) else none
    | _ => none
  | .i2l => match st with
    | .int x :: r => some (.inl (pc + 1, ls, .long x.toInt64 :: r, h))
    | _ => none
  | .l2i => match st with
    | .long x :: r => some (.inl (pc + 1, ls, .int x.toInt32 :: r, h))
    | _ => none
  | .lshl => match st with
    | .int y :: .long x :: r => some (.inl (pc + 1, ls, .long (x <<< (y.toInt64 &&& 63)) :: r, h))
    | _ => none
  | .lcmp => match st with
    | .long y :: .long x :: r => some (.inl (pc + 1, ls, .int (lg_cmp x y) :: r, h))
    | _ => none
  | .ifCond c off => match st with
    | .int x :: r => if mm_cmp c x 0 = true then mm_go pc off ls r h else some (.inl (pc + 3, ls, r, h))
    | _ => none
  | .if_icmp c off => match st with
    | .int y :: .int x :: r => if mm_cmp c x y = true then mm_go pc off ls r h else some (.inl (pc + 3, ls, r, h))
    | _ => none
  | .ifnonnull off => match st with
    | .null :: r => some (.inl (pc + 3, ls, r, h))
    | .ref _ :: r => mm_go pc off ls r h
    | _ => none
  | .goto off => mm_go pc off ls st h
  | .tableswitch d lo hi offs => match st with
    | .int x :: r => if x.toInt < lo ∨ hi < x.toInt then mm_go pc d ls r h else match offs[(x.toInt - lo).toNat]? with
      | some o => mm_go pc o ls r h
      | none => none
    | _ => none
  | .getfield i => match st, mm_fld M.1 i with
    | .ref a :: r, some (ci, k) => match h.2.2 a with
      | some c => if c.1 = ci then match c.2[k]? with
        | some v => some (.inl (pc + 3, ls, v :: r, h))
        | none => none
        else none
      | none => none
    | _, _ => none
  | .putfield i => match st, mm_fld M.1 i with
    | v :: .ref a :: r, some (ci, k) => match h.2.2 a with
      | some c => if c.1 = ci ∧ k < c.2.length ∧ narrow (mm_ty ci k) v = v ∧ fits (mm_ty ci k) v = true ∧ ((mm_F ci k).2.2.2 = false ∨ (M.2.1.name = "<init>" ∧ M.1 = ci)) then some (.inl (pc + 3, ls, r, mm_up h a (ci, c.2.set k v))) else none
      | none => none
    | _, _ => none
  | .iaload => match st with
    | .int j :: .ref a :: r => if a = 0 then match sc with
        | some xs => if j < 0 then none else match xs[j.toNatClampNeg]? with
          | some x => some (.inl (pc + 1, ls, .int x :: r, h))
          | none => none
        | none => none
      else match h.2.2 a with
        | some c => if c.1 = 5 then match mm_ix c.2 j with
          | some v => some (.inl (pc + 1, ls, v :: r, h))
          | none => none
          else none
        | none => none
    | _ => none
  | .laload => match st with
    | .int j :: .ref a :: r => match h.2.2 a with
      | some c => if c.1 = 6 then match mm_ix c.2 j with
        | some v => some (.inl (pc + 1, ls, v :: r, h))
        | none => none
        else none
      | none => none
    | _ => none
  | .aaload => match st with
    | .int j :: .ref a :: r => match h.2.2 a with
      | some c => if c.1 = 7 ∨ c.1 = 8 ∨ c.1 = 9 then match mm_ix c.2 j with
        | some v => some (.inl (pc + 1, ls, v :: r, h))
        | none => none
        else none
      | none => none
    | _ => none
  | .iastore => match st with
    | .int x :: .int j :: .ref a :: r => match h.2.2 a with
      | some c => if c.1 = 5 ∧ ¬ j < 0 ∧ j.toNatClampNeg < c.2.length then some (.inl (pc + 1, ls, r, mm_up h a (5, c.2.set j.toNatClampNeg (.int x)))) else none
      | none => none
    | _ => none
  | .lastore => match st with
    | .long x :: .int j :: .ref a :: r => match h.2.2 a with
      | some c => if c.1 = 6 ∧ ¬ j < 0 ∧ j.toNatClampNeg < c.2.length then some (.inl (pc + 1, ls, r, mm_up h a (6, c.2.set j.toNatClampNeg (.long x)))) else none
      | none => none
    | _ => none
  | .aastore => match st with
    | v :: .int j :: .ref a :: r => match h.2.2 a with
      | some c => if ((c.1 = 7 ∧ mm_okv h 0 v = true) ∨ (c.1 = 8 ∧ mm_okv h 1 v = true)) ∧ ¬ j < 0 ∧ j.toNatClampNeg < c.2.length then some (.inl (pc + 1, ls, r, mm_up h a (c.1, c.2.set j.toNatClampNeg v))) else none
      | none => none
    | _ => none
  | .arraylength => match st, sc with
    | .ref a :: r, some xs => if a = 0 then some (.inl (pc + 1, ls, .int (Int32.ofNat xs.length) :: r, h)) else none
    | _, _ => none
  | .newarray ty => match st, ty with
    | .int n :: r, .int => if n < 0 ∨ 10000 < n.toNatClampNeg then none else some (.inl (pc + 2, ls, .ref h.1 :: r, mm_new h (5, List.replicate n.toNatClampNeg (.int 0))))
    | .int n :: r, .long => if n < 0 ∨ 10000 < n.toNatClampNeg then none else some (.inl (pc + 2, ls, .ref h.1 :: r, mm_new h (6, List.replicate n.toNatClampNeg (.long 0))))
    | _, _ => none
  | .anewarray i => match st, mm_cls M.1 i with
    | .int n :: r, some k => if n < 0 ∨ 10000 < n.toNatClampNeg ∨ 1 < k then none else some (.inl (pc + 3, ls, .ref h.1 :: r, mm_new h (7 + k, List.replicate n.toNatClampNeg .null)))
    | _, _ => none
  | .multianewarray i d => match st, mm_cls M.1 i with
    | .int k :: .int n :: r, some 9 => if n < 0 ∨ k < 0 ∨ 10000 < n.toNatClampNeg ∨ 10000 < k.toNatClampNeg ∨ ¬ d = 2 then none else some (.inl (pc + 4, ls, .ref h.1 :: r, mm_grid h n.toNatClampNeg k.toNatClampNeg))
    | _, _ => none
  | .new i => match mm_cls M.1 i with
    | some k => if 4 < k then none else some (.inl (pc + 3, ls, .ref h.1 :: st, mm_new h (k, mm_df k)))
    | none => none
  | .invokestatic i => match mm_max M.1 i with
    | some k => match k, st with
      | 0, .int y :: .int x :: r => if 1 ≤ F ∧ (r.map fun v => v.category).sum ≤ 8 then some (.inl (pc + 3, ls, .int (if x < y then y else x) :: r, h)) else none
      | 1, .long y :: .long x :: r => if 1 ≤ F ∧ (r.map fun v => v.category).sum ≤ 8 then some (.inl (pc + 3, ls, .long (if y < x then x else y) :: r, h)) else none
      | _, _ => none
    | none => match mm_mth M.1 i with
      | some (0, t) => mm_call t t.2.2.2.2.2 st
      | _ => none
  | .invokevirtual i => match mm_mth M.1 i with
    | some (1, t) => if mm_this h t.2.2.2.2.2 t.1 st = true then mm_call t (t.2.2.2.2.2 + 1) st else none
    | _ => none
  | .invokespecial i => if mm_objL.contains (M.1, i) then match st with
      | .ref _ :: r => if 1 ≤ F ∧ (r.map fun v => v.category).sum ≤ 8 then some (.inl (pc + 3, ls, r, h)) else none
      | _ => none
    else match mm_mth M.1 i with
      | some (k, t) => if (k = 2 ∨ k = 3) ∧ mm_this h t.2.2.2.2.2 t.1 st = true then mm_call t (t.2.2.2.2.2 + 1) st else none
      | _ => none
  | .ireturn => match st with
    | [.int v] => if M.2.2.2.2.1 = some .int ∨ (M.2.2.2.2.1 = some .boolean ∧ (v = 0 ∨ v = 1)) then some (.inr (.inr (some (.int v)))) else none
    | _ => none
  | .lreturn => match st with
    | [.long v] => if M.2.2.2.2.1 = some .long then some (.inr (.inr (some (.long v)))) else none
    | _ => none
  | .return_ => match st with
    | [] => if M.2.2.2.2.1 = none then some (.inr (.inr none)) else none
    | _ => none
  | _ => match st with
    | .int y :: .int x :: r => match mm_bi ins x y with
      | some v => some (.inl (pc + 1, ls, .int v :: r, h))
      | none => none
    | .long y :: .long x :: r => match mm_bl ins x y with
      | some v => some (.inl (pc + 1, ls, .long v :: r, h))
      | none => none
    | _ => none
/-- how long an instruction is -/
def mm_ln (ins : Instr) : Nat := match ins with
  | .bipush _ | .iload _ | .lload _ | .aload _ | .istore _ | .lstore _ | .astore _ | .newarray _ => 2
  | .sipush _ | .ldc2_w _ | .iinc _ _ | .ifCond _ _ | .if_icmp _ _ | .ifnonnull _ | .goto _ | .getfield _ | .putfield _ | .invokevirtual _ | .invokestatic _ | .invokespecial _ | .new _ | .anewarray _ => 3
  | .multianewarray _ _ => 4
  | .tableswitch _ _ _ _ => 0
  | _ => 1
def mm_at (M : mm_T) (pc : Nat) : Option Instr := match decode M.2.2.1 pc with
  | .ok (ins, len) => if mm_ln ins = 0 ∨ mm_ln ins = len then some ins else none
  | .error _ => none
/-- a run: by fuel n, with room for F frames more -/
def mm_run : Nat → Option (List Int32) → Nat → mm_T → Nat → mm_L → List Value → mm_H → Option (Option Value × mm_H)
  | 0, _, _, _, _, _, _, _ => none
  | n + 1, sc, F, M, pc, ls, st, h => match mm_at M pc with
    | none => none
    | some ins => match mm_x sc F M ins pc ls st h with
      | none => none
      | some (.inl (pc', ls', st', h')) => mm_run n sc F M pc' ls' st' h'
      | some (.inr (.inl (t, as, rest))) => match F with
        | 0 => none
        | F' + 1 => match mm_run n none F' t 0 (lv_args 0 as) [] h with
          | none => none
          | some (r, h') => mm_run n sc (F' + 1) M (pc + 3) ls (r.toList ++ rest) h'
      | some (.inr (.inr r)) => some (r, h)
/-- the run comes to its end, and the end is as P says -/
def mW (sc : Option (List Int32)) (F : Nat) (M : mm_T) (pc : Nat) (ls : mm_L) (st : List Value) (h : mm_H) (P : Option Value → mm_H → Prop) : Prop :=
  ∃ n r h', mm_run n sc F M pc ls st h = some (r, h') ∧ P r h'
end
section
/-! HOW THE MINI-MACHINE STANDS TO THE MACHINE: mini address 0 is the script's cell, address a + 1 the a-th cell made since the law began; B = (the script's address, the heap's size at the law's start) -/
def mm_am (B : Nat × Nat) (a : Nat) : Nat := if a = 0 then B.1 else B.2 + (a - 1)
def mm_sh (B : Nat × Nat) (v : Value) : Value := match v with
  | .ref a => .ref (mm_am B a)
  | .int x => .int x
  | .long x => .long x
  | .float x => .float x
  | .double x => .double x
  | .null => .null
  | .retAddr x => .retAddr x
def mm_mp (B : Nat × Nat) (ls : mm_L) : List (Nat × Value) := ls.map (fun q => (q.1, mm_sh B q.2))
theorem mm_sh_cat (B : Nat × Nat) (v : Value) : (mm_sh B v).category = v.category := by cases v <;> rfl
theorem mm_am_inj {B : Nat × Nat} {a b : Nat} (ha : 0 < a) (hb : 0 < b) (h : mm_am B a = mm_am B b) : a = b := by
  unfold mm_am at h
  rw [if_neg (by omega), if_neg (by omega)] at h
  omega
theorem mm_lk_has {B : Nat × Nat} {lsA : Array Slot} {nL i : Nat} {ls : mm_L} {v : Value} (hl : lv_has lsA nL (mm_mp B ls)) (h : mm_lk ls i = some v) : lsA[i]? = some (.val (mm_sh B v)) := by
  unfold mm_lk at h
  obtain ⟨q, hq, hv⟩ := Option.map_eq_some_iff.mp h
  have h1 := List.find?_some hq
  have h2 := List.mem_of_find?_eq_some hq
  have h3 := hl.2.2 (q.1, mm_sh B q.2) (List.mem_map.mpr ⟨q, h2, rfl⟩)
  have h4 : q.1 = i := by simpa using h1
  rw [← hv, ← h4]
  exact h3
theorem mm_mp_st1 (B : Nat × Nat) (ls : mm_L) (i : Nat) (v : Value) : (i, mm_sh B v) :: (mm_mp B ls).filter (fun q => !(q.1 == i) && !(q.1 + 1 == i && q.2.category == 2)) = mm_mp B (mm_st1 ls i v) := by
  unfold mm_mp mm_st1
  rw [List.map_cons, List.filter_map]
  have h : ((fun q : Nat × Value => !(q.1 == i) && !(q.1 + 1 == i && q.2.category == 2)) ∘ fun q : Nat × Value => (q.1, mm_sh B q.2)) = (fun q : Nat × Value => !(q.1 == i) && !(q.1 + 1 == i && q.2.category == 2)) := by
    funext q
    simp [Function.comp, mm_sh_cat]
  rw [h]
theorem mm_mp_st2 (B : Nat × Nat) (ls : mm_L) (i : Nat) (v : Value) : (i, mm_sh B v) :: (mm_mp B ls).filter (fun q => !(q.1 == i) && (!(q.1 == i + 1) && !(q.1 + 1 == i && q.2.category == 2))) = mm_mp B (mm_st2 ls i v) := by
  unfold mm_mp mm_st2
  rw [List.map_cons, List.filter_map]
  have h : ((fun q : Nat × Value => !(q.1 == i) && (!(q.1 == i + 1) && !(q.1 + 1 == i && q.2.category == 2))) ∘ fun q : Nat × Value => (q.1, mm_sh B q.2)) = (fun q : Nat × Value => !(q.1 == i) && (!(q.1 == i + 1) && !(q.1 + 1 == i && q.2.category == 2))) := by
    funext q
    simp [Function.comp, mm_sh_cat]
  rw [h]
/-- a cell of the machine's heap is as the mini-machine has it -/
def mm_cell (D : va_G) (B : Nat × Nat) (a : Nat) (c : mm_C) (H : Heap) : Prop :=
  if c.1 < 5 then c.2.length = mm_N c.1 ∧ t_OB (mm_am B a) (D.1 c.1) (mm_N c.1) (D.2 c.1) H (vp_V (c.2.map (mm_sh B)))
  else H[mm_am B a]? = some (arrV (D.1 c.1) c.2.length (vp_V (c.2.map (mm_sh B))))
def mm_HP (D : va_G) (B : Nat × Nat) (h : mm_H) (H : Heap) : Prop :=
  1 ≤ h.1 ∧ H.size + 1 = B.2 + h.1 ∧ ∀ (a : Nat) (c : mm_C), h.2.2 a = some c → 0 < a ∧ a < h.1 ∧ mm_cell D B a c H
theorem mm_cell.kept {D : va_G} {B : Nat × Nat} {a : Nat} {c : mm_C} {H H1 : Heap} (h : mm_cell D B a c H) (hq : H1[mm_am B a]? = H[mm_am B a]?) : mm_cell D B a c H1 := by
  unfold mm_cell at h ⊢
  by_cases hk : c.1 < 5
  · rw [if_pos hk] at h ⊢
    exact ⟨h.1, h.2.kept hq⟩
  · rw [if_neg hk] at h ⊢
    rw [hq]
    exact h
theorem mm_HP.am {D : va_G} {B : Nat × Nat} {h : mm_H} {H : Heap} (hP : mm_HP D B h H) : mm_am B h.1 = H.size := by
  obtain ⟨h1, h2, -⟩ := hP
  unfold mm_am
  rw [if_neg (by omega)]
  omega
theorem mm_HP.up {D : va_G} {B : Nat × Nat} {h : mm_H} {H H1 : Heap} {a : Nat} {c0 c : mm_C} (hP : mm_HP D B h H) (ha : h.2.2 a = some c0) (hc : mm_cell D B a c H1) (z : H1.size = H.size) (o : ∀ q : Nat, q ≠ mm_am B a → H1[q]? = H[q]?) : mm_HP D B (mm_up h a c) H1 := by
  obtain ⟨h1, h2, h3⟩ := hP
  refine ⟨h1, by rw [z]; exact h2, fun b d hb => ?_⟩
  have hb' : (if b = a then some c else h.2.2 b) = some d := hb
  by_cases e : b = a
  · subst e
    rw [if_pos rfl] at hb'
    cases hb'
    exact ⟨(h3 _ _ ha).1, (h3 _ _ ha).2.1, hc⟩
  · rw [if_neg e] at hb'
    obtain ⟨g1, g2, g3⟩ := h3 _ _ hb'
    exact ⟨g1, g2, g3.kept (o _ (fun q => e (mm_am_inj g1 (h3 _ _ ha).1 q)))⟩
theorem mm_HP.new {D : va_G} {B : Nat × Nat} {h : mm_H} {H H1 : Heap} {c : mm_C} (hP : mm_HP D B h H) (hc : mm_cell D B h.1 c H1) (z : H1.size = H.size + 1) (o : ∀ q : Nat, q < H.size → H1[q]? = H[q]?) : mm_HP D B (mm_new h c) H1 := by
  have ham := hP.am
  obtain ⟨h1, h2, h3⟩ := hP
  refine ⟨by show 1 ≤ h.1 + 1; omega, by show H1.size + 1 = B.2 + (h.1 + 1); omega, fun b d hb => ?_⟩
  have hb' : (if b = h.1 then some c else h.2.2 b) = some d := hb
  show 0 < b ∧ b < h.1 + 1 ∧ _
  by_cases e : b = h.1
  · rw [if_pos e] at hb'
    cases hb'
    rw [e]
    exact ⟨h1, by omega, hc⟩
  · rw [if_neg e] at hb'
    obtain ⟨g1, g2, g3⟩ := h3 _ _ hb'
    refine ⟨g1, by omega, g3.kept (o _ ?_)⟩
    unfold mm_am
    rw [if_neg (by omega)]
    omega
/-! the tables hold what the machine asks -/
def mm_Ws : List Cond := lw_tbl.filter goodWord
def mm_nestL : List (String × Nat × MethodName × String) := [(RX3, 21, yX2_init, RX3), (RX3, 40, yX1_init, RX3)]
def mm_tys (D : va_G) : List (ClassId × FieldType) := [(D.1 5, .int), (D.1 6, .long), (D.1 7, .object RX0), (D.1 8, .object RX1), (D.1 9, .array .int)]
/-- what is known of the tables of int[][] -/
def mm_AOA (D : va_G) (U : State) : Prop := (∃ k : Class, U.vm.classes[D.1 9]? = some k ∧ k.kind = .array (D.1 5) (.array .int)) ∧ ∃ (k : Class) (cm : ClassId), U.vm.classes[D.1 5]? = some k ∧ k.kind = .array cm .int
/-- what the mini-machine takes as given of the machine's tables -/
def mm_WF (D : va_G) (U : State) : Prop := va_K D vwCl (mm_tys D) U ∧ va_AO RX0 U ∧ va_AO RX1 U ∧ mm_AOA D U ∧ ∀ e ∈ mm_nestL, va_Nw (.methodLinkNest e.1 e.2.1 e.2.2.1 e.2.2.2) U
theorem mm_AOA.moved {D : va_G} {u U : State} (hvm : u.vm.Alike U.vm) (h : mm_AOA D u) : mm_AOA D U := by
  obtain ⟨⟨k, h1, h2⟩, k5, cm, h3, h4⟩ := h
  obtain ⟨k', hk', he⟩ := hvm.2.2 _ _ h1
  obtain ⟨k5', hk5', he5⟩ := hvm.2.2 _ _ h3
  exact ⟨⟨k', hk', by rw [he]; exact h2⟩, k5', cm, hk5', by rw [he5]; exact h4⟩
theorem mm_WF.warm {D : va_G} {s U : State} (hW : s.WarmedH U.vm) (h : mm_WF D s) : mm_WF D U := by
  obtain ⟨h1, h2, h3, h4, h5⟩ := h
  exact ⟨va_K.moved hW.alike h1, h2.moved hW.alike, h3.moved hW.alike, h4.moved hW.alike, fun e he => va_Nw.warmM hW (h5 e he)⟩
theorem mm_WF.same {D : va_G} {s U : State} (hW : s.vm = U.vm) (h : mm_WF D s) : mm_WF D U := by
  obtain ⟨h1, h2, h3, h4, h5⟩ := h
  have hA : s.vm.Alike U.vm := by rw [hW]; exact Vm.Alike.refl _
  exact ⟨va_K.moved hA h1, h2.moved hA, h3.moved hA, h4.moved hA, fun e he => va_Nw.same rfl hW (h5 e he)⟩
theorem mm_cl_at (i : Nat) (h : i < 5) : vwCl[i]? = some (mm_cn i, mm_F i, mm_N i) := by
  match i, h with
  | 0, _ => rfl
  | 1, _ => rfl
  | 2, _ => rfl
  | 3, _ => rfl
  | 4, _ => rfl
  | n + 5, h => omega
set_option maxRecDepth 100000 in
theorem mm_fldL_ok : ∀ e ∈ mm_fldL, e.2.2.1 < 5 ∧ e.2.2.2 < mm_N e.2.2.1 ∧ Cond.fieldLink (mm_cn e.1) e.2.1 (mm_F e.2.2.1 e.2.2.2).1 (mm_F e.2.2.1 e.2.2.2).2.1 (mm_F e.2.2.1 e.2.2.2).2.2.1 ∈ mm_Ws ∧ (mm_F e.2.2.1 e.2.2.2).1 = mm_cn e.2.2.1 := by decide +kernel
set_option maxRecDepth 100000 in
theorem mm_lay_ok : ∀ i, i < 5 → ∀ w ∈ u_ws (mm_cn i) (mm_F i) (mm_N i), w ∈ mm_Ws := by decide +kernel
set_option maxRecDepth 100000 in
theorem mm_ty_ok : ∀ i, i < 5 → ∀ k, k < mm_N i → parseFieldDescriptor (mm_F i k).2.2.1 = some (mm_ty i k) := by decide +kernel
set_option maxRecDepth 100000 in
theorem mm_nm_ok : ∀ i, i < 5 → ∀ a, a < mm_N i → ∀ b, b < mm_N i → a ≠ b → (mm_F i a).2.1 ≠ (mm_F i b).2.1 := by decide +kernel
set_option maxRecDepth 100000 in
theorem mm_ldcL_ok : ∀ e ∈ mm_ldcL, Cond.constantLong (mm_cn e.1) e.2.1 e.2.2 ∈ mm_Ws := by decide +kernel
set_option maxRecDepth 100000 in
theorem mm_clsL_ok : ∀ e ∈ mm_clsL, (e.2.2 < 5 → Cond.classLink (mm_cn e.1) e.2.1 (mm_cn e.2.2) ∈ mm_Ws ∧ Cond.instantiable (mm_cn e.2.2) (mm_N e.2.2) ∈ mm_Ws ∧ Cond.initialized (mm_cn e.2.2) ∈ mm_Ws) ∧ (e.2.2 = 9 → Cond.classLink (mm_cn e.1) e.2.1 ("[" ++ (FieldType.array .int).toString) ∈ mm_Ws) := by decide +kernel
set_option maxRecDepth 100000 in
theorem mm_objL_ok : ∀ e ∈ mm_objL, Cond.methodLink (mm_cn e.1) e.2 Lib.objectInit ∈ mm_Ws := by decide +kernel
set_option maxRecDepth 100000 in
theorem mm_obj_ok : Cond.instanceMethod Lib.objectInit ∈ mm_Ws ∧ Cond.code Lib.objectInit ⟨#[0xb1]⟩ 1 none ∈ mm_Ws ∧ Cond.arrayClass .int ∈ mm_Ws ∧ Cond.arrayClass .long ∈ mm_Ws := by decide +kernel
set_option maxRecDepth 100000 in
theorem mm_maxL_ok : ∀ e ∈ mm_maxL, (e.2.2 = 0 → Cond.methodLink (mm_cn e.1) e.2.1 Lib.Math.max.name ∈ mm_Ws) ∧ (e.2.2 = 1 → Cond.methodLink (mm_cn e.1) e.2.1 Lib.MathLoose.max_long.x ∈ mm_Ws) := by decide +kernel
set_option maxRecDepth 100000 in
theorem mm_max_ok : Cond.initialized "java/lang/Math" ∈ mm_Ws ∧ Cond.static Lib.Math.max.name ∈ mm_Ws ∧ Cond.static Lib.MathLoose.max_long.x ∈ mm_Ws := by decide +kernel
set_option maxRecDepth 100000 in
theorem mm_max_code : Cond.code Lib.Math.max.name Lib.Math.max.code 2 (some .int) ∈ mm_Ws ∧ Cond.code Lib.MathLoose.max_long.x Lib.MathLoose.max_long.code 4 (some .long) ∈ mm_Ws := by decide +kernel
set_option maxRecDepth 100000 in
theorem mm_mthL_ok1 : ∀ e ∈ mm_mthL, e.2.2.2.2.1.cls = mm_cn e.2.2.2.1 ∧ plainName e.2.2.2.2.1.cls = true ∧ e.2.2.2.2.2.2.1 ≤ 20 := by decide +kernel
set_option maxRecDepth 100000 in
theorem mm_mthL_ok2 : ∀ e ∈ mm_mthL, e.2.2.2.2.1.cls ≠ "java/lang/invoke/MethodHandle" ∧ e.2.2.2.2.1.cls ≠ "java/lang/invoke/VarHandle" ∧ (parseMethodDescriptor e.2.2.2.2.1.desc).map (fun d => d.parameters.length) = some e.2.2.2.2.2.2.2.2 := by decide +kernel
set_option maxRecDepth 100000 in
theorem mm_mthL_ok3 : ∀ e ∈ mm_mthL, Cond.initialized e.2.2.2.2.1.cls ∈ mm_Ws ∧ (e.2.2.1 = 3 ∨ Cond.methodLink (mm_cn e.1) e.2.1 e.2.2.2.2.1 ∈ mm_Ws) := by decide +kernel
set_option maxRecDepth 100000 in
theorem mm_mthL_ok4 : ∀ e ∈ mm_mthL, e.2.2.1 = 3 → (mm_cn e.1, e.2.1, e.2.2.2.2.1, RX3) ∈ mm_nestL := by decide +kernel
set_option maxRecDepth 100000 in
theorem mm_mthL_ok5 : ∀ e ∈ mm_mthL, e.2.2.1 = 0 → Cond.static e.2.2.2.2.1 ∈ mm_Ws := by decide +kernel
set_option maxRecDepth 100000 in
theorem mm_mthL_ok6 : ∀ e ∈ mm_mthL, e.2.2.1 = 0 ∨ (e.2.2.2.1 < 5 ∧ Cond.instanceMethod e.2.2.2.2.1 ∈ mm_Ws) := by decide +kernel
set_option maxRecDepth 100000 in
theorem mm_mthL_ok7 : ∀ e ∈ mm_mthL, e.2.2.1 = 1 → Cond.selects (mm_cn e.2.2.2.1) e.2.2.2.2.1 e.2.2.2.2.1 ∈ mm_Ws := by decide +kernel
set_option maxRecDepth 100000 in
theorem mm_mthL_ok8 : ∀ e ∈ mm_mthL, (e.2.2.1 = 2 ∨ e.2.2.1 = 3) → e.2.2.2.2.1.name = "<init>" ∧ e.2.2.2.2.2.2.2.1.isNone = true := by decide +kernel
theorem mm_wsC {w : Cond} (h : w ∈ tables_1) (hg : goodWord w = true) : w ∈ mm_Ws := List.mem_filter.mpr ⟨List.mem_append_right _ h, hg⟩
end
section
set_option maxRecDepth 100000 in
theorem cwX0_init : Cond.code mX0_init.2.1 mX0_init.2.2.1 mX0_init.2.2.2.1 mX0_init.2.2.2.2.1 ∈ mm_Ws := mm_wsC (List.mem_of_getElem? (i := 66) rfl) rfl
set_option maxRecDepth 100000 in
theorem cwX1_init : Cond.code mX1_init.2.1 mX1_init.2.2.1 mX1_init.2.2.2.1 mX1_init.2.2.2.2.1 ∈ mm_Ws := mm_wsC (List.mem_of_getElem? (i := 46) rfl) rfl
set_option maxRecDepth 100000 in
theorem cwX1_hearerAt : Cond.code mX1_hearerAt.2.1 mX1_hearerAt.2.2.1 mX1_hearerAt.2.2.2.1 mX1_hearerAt.2.2.2.2.1 ∈ mm_Ws := mm_wsC (List.mem_of_getElem? (i := 299) rfl) rfl
set_option maxRecDepth 100000 in
theorem cwX1_placeOf : Cond.code mX1_placeOf.2.1 mX1_placeOf.2.2.1 mX1_placeOf.2.2.2.1 mX1_placeOf.2.2.2.2.1 ∈ mm_Ws := mm_wsC (List.mem_of_getElem? (i := 186) rfl) rfl
set_option maxRecDepth 100000 in
theorem cwX1_append : Cond.code mX1_append.2.1 mX1_append.2.2.1 mX1_append.2.2.2.1 mX1_append.2.2.2.2.1 ∈ mm_Ws := mm_wsC (List.mem_of_getElem? (i := 182) rfl) rfl
set_option maxRecDepth 100000 in
theorem cwX1_remove : Cond.code mX1_remove.2.1 mX1_remove.2.2.1 mX1_remove.2.2.2.1 mX1_remove.2.2.2.2.1 ∈ mm_Ws := mm_wsC (List.mem_of_getElem? (i := 194) rfl) rfl
set_option maxRecDepth 100000 in
theorem cwX1_copyLine : Cond.code mX1_copyLine.2.1 mX1_copyLine.2.2.1 mX1_copyLine.2.2.2.1 mX1_copyLine.2.2.2.2.1 ∈ mm_Ws := mm_wsC (List.mem_of_getElem? (i := 214) rfl) rfl
set_option maxRecDepth 100000 in
theorem cwX2_init : Cond.code mX2_init.2.1 mX2_init.2.2.1 mX2_init.2.2.2.1 mX2_init.2.2.2.2.1 ∈ mm_Ws := mm_wsC (List.mem_of_getElem? (i := 21) rfl) rfl
set_option maxRecDepth 100000 in
theorem cwX2_append : Cond.code mX2_append.2.1 mX2_append.2.2.1 mX2_append.2.2.2.1 mX2_append.2.2.2.2.1 ∈ mm_Ws := mm_wsC (List.mem_of_getElem? (i := 248) rfl) rfl
set_option maxRecDepth 100000 in
theorem cwX2_bellAt : Cond.code mX2_bellAt.2.1 mX2_bellAt.2.2.1 mX2_bellAt.2.2.2.1 mX2_bellAt.2.2.2.2.1 ∈ mm_Ws := mm_wsC (List.mem_of_getElem? (i := 307) rfl) rfl
set_option maxRecDepth 100000 in
theorem cwX2_firstBell : Cond.code mX2_firstBell.2.1 mX2_firstBell.2.2.1 mX2_firstBell.2.2.2.1 mX2_firstBell.2.2.2.2.1 ∈ mm_Ws := mm_wsC (List.mem_of_getElem? (i := 267) rfl) rfl
set_option maxRecDepth 100000 in
theorem cwX2_firstValue : Cond.code mX2_firstValue.2.1 mX2_firstValue.2.2.1 mX2_firstValue.2.2.2.1 mX2_firstValue.2.2.2.2.1 ∈ mm_Ws := mm_wsC (List.mem_of_getElem? (i := 271) rfl) rfl
set_option maxRecDepth 100000 in
theorem cwX2_dropFirst : Cond.code mX2_dropFirst.2.1 mX2_dropFirst.2.2.1 mX2_dropFirst.2.2.2.1 mX2_dropFirst.2.2.2.2.1 ∈ mm_Ws := mm_wsC (List.mem_of_getElem? (i := 275) rfl) rfl
set_option maxRecDepth 100000 in
theorem cwX3_init : Cond.code mX3_init.2.1 mX3_init.2.2.1 mX3_init.2.2.2.1 mX3_init.2.2.2.2.1 ∈ mm_Ws := mm_wsC (List.mem_of_getElem? (i := 11) rfl) rfl
set_option maxRecDepth 100000 in
theorem cwX3_tally : Cond.code mX3_tally.2.1 mX3_tally.2.2.1 mX3_tally.2.2.2.1 mX3_tally.2.2.2.2.1 ∈ mm_Ws := mm_wsC (List.mem_of_getElem? (i := 151) rfl) rfl
set_option maxRecDepth 100000 in
theorem cwX3_way : Cond.code mX3_way.2.1 mX3_way.2.2.1 mX3_way.2.2.2.1 mX3_way.2.2.2.2.1 ∈ mm_Ws := mm_wsC (List.mem_of_getElem? (i := 159) rfl) rfl
set_option maxRecDepth 100000 in
theorem cwX3_hearer : Cond.code mX3_hearer.2.1 mX3_hearer.2.2.1 mX3_hearer.2.2.2.1 mX3_hearer.2.2.2.2.1 ∈ mm_Ws := mm_wsC (List.mem_of_getElem? (i := 166) rfl) rfl
set_option maxRecDepth 100000 in
theorem cwX3_bind : Cond.code mX3_bind.2.1 mX3_bind.2.2.1 mX3_bind.2.2.2.1 mX3_bind.2.2.2.2.1 ∈ mm_Ws := mm_wsC (List.mem_of_getElem? (i := 178) rfl) rfl
set_option maxRecDepth 100000 in
theorem cwX3_leave : Cond.code mX3_leave.2.1 mX3_leave.2.2.1 mX3_leave.2.2.2.1 mX3_leave.2.2.2.2.1 ∈ mm_Ws := mm_wsC (List.mem_of_getElem? (i := 190) rfl) rfl
set_option maxRecDepth 100000 in
theorem cwX3_take : Cond.code mX3_take.2.1 mX3_take.2.2.1 mX3_take.2.2.2.1 mX3_take.2.2.2.2.1 ∈ mm_Ws := mm_wsC (List.mem_of_getElem? (i := 198) rfl) rfl
set_option maxRecDepth 100000 in
theorem cwX3_lend : Cond.code mX3_lend.2.1 mX3_lend.2.2.1 mX3_lend.2.2.2.1 mX3_lend.2.2.2.2.1 ∈ mm_Ws := mm_wsC (List.mem_of_getElem? (i := 202) rfl) rfl
set_option maxRecDepth 100000 in
theorem cwX3_ring : Cond.code mX3_ring.2.1 mX3_ring.2.2.1 mX3_ring.2.2.2.1 mX3_ring.2.2.2.2.1 ∈ mm_Ws := mm_wsC (List.mem_of_getElem? (i := 206) rfl) rfl
set_option maxRecDepth 100000 in
theorem cwX3_drain : Cond.code mX3_drain.2.1 mX3_drain.2.2.1 mX3_drain.2.2.2.1 mX3_drain.2.2.2.2.1 ∈ mm_Ws := mm_wsC (List.mem_of_getElem? (i := 283) rfl) rfl
set_option maxRecDepth 100000 in
theorem cwX3_act : Cond.code mX3_act.2.1 mX3_act.2.2.1 mX3_act.2.2.2.1 mX3_act.2.2.2.2.1 ∈ mm_Ws := mm_wsC (List.mem_of_getElem? (i := 287) rfl) rfl
set_option maxRecDepth 100000 in
theorem cwX3_get : Cond.code mX3_get.2.1 mX3_get.2.2.1 mX3_get.2.2.2.1 mX3_get.2.2.2.2.1 ∈ mm_Ws := mm_wsC (List.mem_of_getElem? (i := 291) rfl) rfl
set_option maxRecDepth 100000 in
theorem cwX3_line : Cond.code mX3_line.2.1 mX3_line.2.2.1 mX3_line.2.2.2.1 mX3_line.2.2.2.2.1 ∈ mm_Ws := mm_wsC (List.mem_of_getElem? (i := 295) rfl) rfl
set_option maxRecDepth 100000 in
theorem cwX3_queued : Cond.code mX3_queued.2.1 mX3_queued.2.2.1 mX3_queued.2.2.2.1 mX3_queued.2.2.2.2.1 ∈ mm_Ws := mm_wsC (List.mem_of_getElem? (i := 303) rfl) rfl
set_option maxRecDepth 100000 in
theorem cwX3_count : Cond.code mX3_count.2.1 mX3_count.2.2.1 mX3_count.2.2.2.1 mX3_count.2.2.2.2.1 ∈ mm_Ws := mm_wsC (List.mem_of_getElem? (i := 311) rfl) rfl
set_option maxRecDepth 100000 in
theorem cwX3_done : Cond.code mX3_done.2.1 mX3_done.2.2.1 mX3_done.2.2.2.1 mX3_done.2.2.2.2.1 ∈ mm_Ws := mm_wsC (List.mem_of_getElem? (i := 315) rfl) rfl
set_option maxRecDepth 100000 in
theorem cwX3_isTally : Cond.code mX3_isTally.2.1 mX3_isTally.2.2.1 mX3_isTally.2.2.2.1 mX3_isTally.2.2.2.2.1 ∈ mm_Ws := mm_wsC (List.mem_of_getElem? (i := 154) rfl) rfl
set_option maxRecDepth 100000 in
theorem cwX3_isBell : Cond.code mX3_isBell.2.1 mX3_isBell.2.2.1 mX3_isBell.2.2.2.1 mX3_isBell.2.2.2.2.1 ∈ mm_Ws := mm_wsC (List.mem_of_getElem? (i := 162) rfl) rfl
set_option maxRecDepth 100000 in
theorem cwX3_isHearer : Cond.code mX3_isHearer.2.1 mX3_isHearer.2.2.1 mX3_isHearer.2.2.2.1 mX3_isHearer.2.2.2.2.1 ∈ mm_Ws := mm_wsC (List.mem_of_getElem? (i := 174) rfl) rfl
set_option maxRecDepth 100000 in
theorem cwX3_canBeMade : Cond.code mX3_canBeMade.2.1 mX3_canBeMade.2.2.1 mX3_canBeMade.2.2.2.1 mX3_canBeMade.2.2.2.2.1 ∈ mm_Ws := mm_wsC (List.mem_of_getElem? (i := 170) rfl) rfl
set_option maxRecDepth 100000 in
theorem cwX3_makeHearer : Cond.code mX3_makeHearer.2.1 mX3_makeHearer.2.2.1 mX3_makeHearer.2.2.2.1 mX3_makeHearer.2.2.2.2.1 ∈ mm_Ws := mm_wsC (List.mem_of_getElem? (i := 62) rfl) rfl
set_option maxRecDepth 100000 in
theorem cwX3_answerOfCall : Cond.code mX3_answerOfCall.2.1 mX3_answerOfCall.2.2.1 mX3_answerOfCall.2.2.2.1 mX3_answerOfCall.2.2.2.2.1 ∈ mm_Ws := mm_wsC (List.mem_of_getElem? (i := 279) rfl) rfl
set_option maxRecDepth 100000 in
theorem cwX3_ringQueueAfter : Cond.code mX3_ringQueueAfter.2.1 mX3_ringQueueAfter.2.2.1 mX3_ringQueueAfter.2.2.2.1 mX3_ringQueueAfter.2.2.2.2.1 ∈ mm_Ws := mm_wsC (List.mem_of_getElem? (i := 263) rfl) rfl
set_option maxRecDepth 100000 in
theorem cwX3_ringBell : Cond.code mX3_ringBell.2.1 mX3_ringBell.2.2.1 mX3_ringBell.2.2.2.1 mX3_ringBell.2.2.2.2.1 ∈ mm_Ws := mm_wsC (List.mem_of_getElem? (i := 210) rfl) rfl
set_option maxRecDepth 100000 in
theorem cwX3_perform : Cond.code mX3_perform.2.1 mX3_perform.2.2.1 mX3_perform.2.2.2.1 mX3_perform.2.2.2.2.1 ∈ mm_Ws := mm_wsC (List.mem_of_getElem? (i := 219) rfl) rfl
set_option maxRecDepth 100000 in
theorem cwX3_performAlone : Cond.code mX3_performAlone.2.1 mX3_performAlone.2.2.1 mX3_performAlone.2.2.2.1 mX3_performAlone.2.2.2.2.1 ∈ mm_Ws := mm_wsC (List.mem_of_getElem? (i := 233) rfl) rfl
set_option maxRecDepth 100000 in
theorem cwX3_shareTally : Cond.code mX3_shareTally.2.1 mX3_shareTally.2.2.1 mX3_shareTally.2.2.2.1 mX3_shareTally.2.2.2.2.1 ∈ mm_Ws := mm_wsC (List.mem_of_getElem? (i := 240) rfl) rfl
set_option maxRecDepth 100000 in
theorem cwX3_addAtPlace : Cond.code mX3_addAtPlace.2.1 mX3_addAtPlace.2.2.1 mX3_addAtPlace.2.2.2.1 mX3_addAtPlace.2.2.2.2.1 ∈ mm_Ws := mm_wsC (List.mem_of_getElem? (i := 244) rfl) rfl
set_option maxRecDepth 100000 in
theorem cwX3_removeFromAllLines : Cond.code mX3_removeFromAllLines.2.1 mX3_removeFromAllLines.2.2.1 mX3_removeFromAllLines.2.2.2.1 mX3_removeFromAllLines.2.2.2.2.1 ∈ mm_Ws := mm_wsC (List.mem_of_getElem? (i := 252) rfl) rfl
set_option maxRecDepth 100000 in
theorem cwX3_metByBell : Cond.code mX3_metByBell.2.1 mX3_metByBell.2.2.1 mX3_metByBell.2.2.2.1 mX3_metByBell.2.2.2.2.1 ∈ mm_Ws := mm_wsC (List.mem_of_getElem? (i := 256) rfl) rfl
set_option maxRecDepth 100000 in
theorem cwX3_metByTry : Cond.code mX3_metByTry.2.1 mX3_metByTry.2.2.1 mX3_metByTry.2.2.2.1 mX3_metByTry.2.2.2.2.1 ∈ mm_Ws := mm_wsC (List.mem_of_getElem? (i := 226) rfl) rfl
set_option maxRecDepth 100000 in
theorem cwX3_canBeMet : Cond.code mX3_canBeMet.2.1 mX3_canBeMet.2.2.1 mX3_canBeMet.2.2.2.1 mX3_canBeMet.2.2.2.2.1 ∈ mm_Ws := mm_wsC (List.mem_of_getElem? (i := 229) rfl) rfl
set_option maxRecDepth 100000 in
theorem cwX3_wellIfStopped : Cond.code mX3_wellIfStopped.2.1 mX3_wellIfStopped.2.2.1 mX3_wellIfStopped.2.2.2.1 mX3_wellIfStopped.2.2.2.2.1 ∈ mm_Ws := mm_wsC (List.mem_of_getElem? (i := 259) rfl) rfl
set_option maxRecDepth 100000 in
theorem cwX4_init : Cond.code mX4_init.2.1 mX4_init.2.2.1 mX4_init.2.2.2.1 mX4_init.2.2.2.2.1 ∈ mm_Ws := mm_wsC (List.mem_of_getElem? (i := 320) rfl) rfl
set_option maxRecDepth 100000 in
theorem cwX4_in : Cond.code mX4_in.2.1 mX4_in.2.2.1 mX4_in.2.2.2.1 mX4_in.2.2.2.2.1 ∈ mm_Ws := mm_wsC (List.mem_of_getElem? (i := 330) rfl) rfl
set_option maxRecDepth 100000 in
theorem cwX4_isHearer : Cond.code mX4_isHearer.2.1 mX4_isHearer.2.2.1 mX4_isHearer.2.2.2.1 mX4_isHearer.2.2.2.2.1 ∈ mm_Ws := mm_wsC (List.mem_of_getElem? (i := 449) rfl) rfl
set_option maxRecDepth 100000 in
theorem cwX4_isBell : Cond.code mX4_isBell.2.1 mX4_isBell.2.2.1 mX4_isBell.2.2.2.1 mX4_isBell.2.2.2.2.1 ∈ mm_Ws := mm_wsC (List.mem_of_getElem? (i := 439) rfl) rfl
set_option maxRecDepth 100000 in
theorem cwX4_isTally : Cond.code mX4_isTally.2.1 mX4_isTally.2.2.1 mX4_isTally.2.2.2.1 mX4_isTally.2.2.2.2.1 ∈ mm_Ws := mm_wsC (List.mem_of_getElem? (i := 431) rfl) rfl
set_option maxRecDepth 100000 in
theorem cwX4_tally : Cond.code mX4_tally.2.1 mX4_tally.2.2.1 mX4_tally.2.2.2.1 mX4_tally.2.2.2.2.1 ∈ mm_Ws := mm_wsC (List.mem_of_getElem? (i := 428) rfl) rfl
set_option maxRecDepth 100000 in
theorem cwX4_way : Cond.code mX4_way.2.1 mX4_way.2.2.1 mX4_way.2.2.2.1 mX4_way.2.2.2.2.1 ∈ mm_Ws := mm_wsC (List.mem_of_getElem? (i := 436) rfl) rfl
set_option maxRecDepth 100000 in
theorem cwX4_make : Cond.code mX4_make.2.1 mX4_make.2.2.1 mX4_make.2.2.2.1 mX4_make.2.2.2.2.1 ∈ mm_Ws := mm_wsC (List.mem_of_getElem? (i := 325) rfl) rfl
set_option maxRecDepth 100000 in
theorem cwX4_hearer : Cond.code mX4_hearer.2.1 mX4_hearer.2.2.1 mX4_hearer.2.2.2.1 mX4_hearer.2.2.2.2.1 ∈ mm_Ws := mm_wsC (List.mem_of_getElem? (i := 444) rfl) rfl
set_option maxRecDepth 100000 in
theorem cwX4_placeOf : Cond.code mX4_placeOf.2.1 mX4_placeOf.2.2.1 mX4_placeOf.2.2.2.1 mX4_placeOf.2.2.2.2.1 ∈ mm_Ws := mm_wsC (List.mem_of_getElem? (i := 457) rfl) rfl
set_option maxRecDepth 100000 in
theorem cwX4_put : Cond.code mX4_put.2.1 mX4_put.2.2.1 mX4_put.2.2.2.1 mX4_put.2.2.2.2.1 ∈ mm_Ws := mm_wsC (List.mem_of_getElem? (i := 461) rfl) rfl
set_option maxRecDepth 100000 in
theorem cwX4_out : Cond.code mX4_out.2.1 mX4_out.2.2.1 mX4_out.2.2.2.1 mX4_out.2.2.2.2.1 ∈ mm_Ws := mm_wsC (List.mem_of_getElem? (i := 469) rfl) rfl
set_option maxRecDepth 100000 in
theorem cwX4_bind : Cond.code mX4_bind.2.1 mX4_bind.2.2.1 mX4_bind.2.2.2.1 mX4_bind.2.2.2.2.1 ∈ mm_Ws := mm_wsC (List.mem_of_getElem? (i := 453) rfl) rfl
set_option maxRecDepth 100000 in
theorem cwX4_leave : Cond.code mX4_leave.2.1 mX4_leave.2.2.1 mX4_leave.2.2.2.1 mX4_leave.2.2.2.2.1 ∈ mm_Ws := mm_wsC (List.mem_of_getElem? (i := 465) rfl) rfl
set_option maxRecDepth 100000 in
theorem cwX4_take : Cond.code mX4_take.2.1 mX4_take.2.2.1 mX4_take.2.2.2.1 mX4_take.2.2.2.2.1 ∈ mm_Ws := mm_wsC (List.mem_of_getElem? (i := 473) rfl) rfl
set_option maxRecDepth 100000 in
theorem cwX4_lend : Cond.code mX4_lend.2.1 mX4_lend.2.2.1 mX4_lend.2.2.2.1 mX4_lend.2.2.2.2.1 ∈ mm_Ws := mm_wsC (List.mem_of_getElem? (i := 477) rfl) rfl
set_option maxRecDepth 100000 in
theorem cwX4_heap : Cond.code mX4_heap.2.1 mX4_heap.2.2.1 mX4_heap.2.2.2.1 mX4_heap.2.2.2.2.1 ∈ mm_Ws := mm_wsC (List.mem_of_getElem? (i := 493) rfl) rfl
set_option maxRecDepth 100000 in
theorem cwX4_rings : Cond.code mX4_rings.2.1 mX4_rings.2.2.1 mX4_rings.2.2.2.1 mX4_rings.2.2.2.2.1 ∈ mm_Ws := mm_wsC (List.mem_of_getElem? (i := 489) rfl) rfl
set_option maxRecDepth 100000 in
theorem cwX4_begins : Cond.code mX4_begins.2.1 mX4_begins.2.2.1 mX4_begins.2.2.2.1 mX4_begins.2.2.2.2.1 ∈ mm_Ws := mm_wsC (List.mem_of_getElem? (i := 521) rfl) rfl
set_option maxRecDepth 100000 in
theorem cwX4_does : Cond.code mX4_does.2.1 mX4_does.2.2.1 mX4_does.2.2.2.1 mX4_does.2.2.2.2.1 ∈ mm_Ws := mm_wsC (List.mem_of_getElem? (i := 513) rfl) rfl
set_option maxRecDepth 100000 in
theorem cwX4_doesOthers : Cond.code mX4_doesOthers.2.1 mX4_doesOthers.2.2.1 mX4_doesOthers.2.2.2.1 mX4_doesOthers.2.2.2.2.1 ∈ mm_Ws := mm_wsC (List.mem_of_getElem? (i := 517) rfl) rfl
set_option maxRecDepth 100000 in
theorem cwX4_fails : Cond.code mX4_fails.2.1 mX4_fails.2.2.1 mX4_fails.2.2.2.1 mX4_fails.2.2.2.2.1 ∈ mm_Ws := mm_wsC (List.mem_of_getElem? (i := 505) rfl) rfl
set_option maxRecDepth 100000 in
theorem cwX4_stop : Cond.code mX4_stop.2.1 mX4_stop.2.2.1 mX4_stop.2.2.2.1 mX4_stop.2.2.2.2.1 ∈ mm_Ws := mm_wsC (List.mem_of_getElem? (i := 509) rfl) rfl
set_option maxRecDepth 100000 in
theorem cwX4_goesOn : Cond.code mX4_goesOn.2.1 mX4_goesOn.2.2.1 mX4_goesOn.2.2.2.1 mX4_goesOn.2.2.2.2.1 ∈ mm_Ws := mm_wsC (List.mem_of_getElem? (i := 525) rfl) rfl
set_option maxRecDepth 100000 in
theorem cwX4_works : Cond.code mX4_works.2.1 mX4_works.2.2.1 mX4_works.2.2.2.1 mX4_works.2.2.2.2.1 ∈ mm_Ws := mm_wsC (List.mem_of_getElem? (i := 501) rfl) rfl
set_option maxRecDepth 100000 in
theorem cwX4_ready : Cond.code mX4_ready.2.1 mX4_ready.2.2.1 mX4_ready.2.2.2.1 mX4_ready.2.2.2.2.1 ∈ mm_Ws := mm_wsC (List.mem_of_getElem? (i := 485) rfl) rfl
set_option maxRecDepth 100000 in
theorem cwX4_all : Cond.code mX4_all.2.1 mX4_all.2.2.1 mX4_all.2.2.2.1 mX4_all.2.2.2.2.1 ∈ mm_Ws := mm_wsC (List.mem_of_getElem? (i := 497) rfl) rfl
set_option maxRecDepth 100000 in
theorem cwX4_ring : Cond.code mX4_ring.2.1 mX4_ring.2.2.1 mX4_ring.2.2.2.1 mX4_ring.2.2.2.2.1 ∈ mm_Ws := mm_wsC (List.mem_of_getElem? (i := 481) rfl) rfl
set_option maxRecDepth 100000 in
theorem cwX4_drain : Cond.code mX4_drain.2.1 mX4_drain.2.2.1 mX4_drain.2.2.2.1 mX4_drain.2.2.2.2.1 ∈ mm_Ws := mm_wsC (List.mem_of_getElem? (i := 529) rfl) rfl
set_option maxRecDepth 100000 in
theorem cwX4_act : Cond.code mX4_act.2.1 mX4_act.2.2.1 mX4_act.2.2.2.1 mX4_act.2.2.2.2.1 ∈ mm_Ws := mm_wsC (List.mem_of_getElem? (i := 533) rfl) rfl
set_option maxRecDepth 100000 in
theorem cwX4_get : Cond.code mX4_get.2.1 mX4_get.2.2.1 mX4_get.2.2.2.1 mX4_get.2.2.2.2.1 ∈ mm_Ws := mm_wsC (List.mem_of_getElem? (i := 537) rfl) rfl
set_option maxRecDepth 100000 in
theorem cwX4_line : Cond.code mX4_line.2.1 mX4_line.2.2.1 mX4_line.2.2.2.1 mX4_line.2.2.2.2.1 ∈ mm_Ws := mm_wsC (List.mem_of_getElem? (i := 541) rfl) rfl
set_option maxRecDepth 100000 in
theorem cwX4_queued : Cond.code mX4_queued.2.1 mX4_queued.2.2.1 mX4_queued.2.2.2.1 mX4_queued.2.2.2.2.1 ∈ mm_Ws := mm_wsC (List.mem_of_getElem? (i := 545) rfl) rfl
set_option maxRecDepth 100000 in
theorem cwX4_count : Cond.code mX4_count.2.1 mX4_count.2.2.1 mX4_count.2.2.2.1 mX4_count.2.2.2.2.1 ∈ mm_Ws := mm_wsC (List.mem_of_getElem? (i := 549) rfl) rfl
set_option maxRecDepth 100000 in
theorem cwX4_done : Cond.code mX4_done.2.1 mX4_done.2.2.1 mX4_done.2.2.2.1 mX4_done.2.2.2.2.1 ∈ mm_Ws := mm_wsC (List.mem_of_getElem? (i := 554) rfl) rfl
set_option maxRecDepth 100000 in
theorem mm_mthL_code : ∀ e ∈ mm_mthL, Cond.code e.2.2.2.2.1 e.2.2.2.2.2.1 e.2.2.2.2.2.2.1 e.2.2.2.2.2.2.2.1 ∈ mm_Ws := List.forall_mem_cons.mpr ⟨cwX3_init, List.forall_mem_cons.mpr ⟨cwX3_makeHearer, List.forall_mem_cons.mpr ⟨cwX0_init, List.forall_mem_cons.mpr ⟨cwX3_tally, List.forall_mem_cons.mpr ⟨cwX3_isTally, List.forall_mem_cons.mpr ⟨cwX3_way, List.forall_mem_cons.mpr ⟨cwX3_isBell, List.forall_mem_cons.mpr ⟨cwX3_hearer, List.forall_mem_cons.mpr ⟨cwX3_canBeMade, List.forall_mem_cons.mpr ⟨cwX3_isHearer, List.forall_mem_cons.mpr ⟨cwX3_bind, List.forall_mem_cons.mpr ⟨cwX1_append, List.forall_mem_cons.mpr ⟨cwX1_placeOf, List.forall_mem_cons.mpr ⟨cwX3_leave, List.forall_mem_cons.mpr ⟨cwX1_remove, List.forall_mem_cons.mpr ⟨cwX3_take, List.forall_mem_cons.mpr ⟨cwX3_lend, List.forall_mem_cons.mpr ⟨cwX3_ring, List.forall_mem_cons.mpr ⟨cwX3_ringBell, List.forall_mem_cons.mpr ⟨cwX1_copyLine, List.forall_mem_cons.mpr ⟨cwX1_placeOf, List.forall_mem_cons.mpr ⟨cwX3_perform, List.forall_mem_cons.mpr ⟨cwX3_metByTry, List.forall_mem_cons.mpr ⟨cwX3_canBeMet, List.forall_mem_cons.mpr ⟨cwX3_performAlone, List.forall_mem_cons.mpr ⟨cwX3_shareTally, List.forall_mem_cons.mpr ⟨cwX3_addAtPlace, List.forall_mem_cons.mpr ⟨cwX2_append, List.forall_mem_cons.mpr ⟨cwX3_removeFromAllLines, List.forall_mem_cons.mpr ⟨cwX3_metByBell, List.forall_mem_cons.mpr ⟨cwX3_wellIfStopped, List.forall_mem_cons.mpr ⟨cwX3_ringQueueAfter, List.forall_mem_cons.mpr ⟨cwX2_firstBell, List.forall_mem_cons.mpr ⟨cwX2_firstValue, List.forall_mem_cons.mpr ⟨cwX2_dropFirst, List.forall_mem_cons.mpr ⟨cwX3_answerOfCall, List.forall_mem_cons.mpr ⟨cwX3_drain, List.forall_mem_cons.mpr ⟨cwX3_act, List.forall_mem_cons.mpr ⟨cwX3_get, List.forall_mem_cons.mpr ⟨cwX3_line, List.forall_mem_cons.mpr ⟨cwX1_hearerAt, List.forall_mem_cons.mpr ⟨cwX3_queued, List.forall_mem_cons.mpr ⟨cwX2_bellAt, List.forall_mem_cons.mpr ⟨cwX3_count, List.forall_mem_cons.mpr ⟨cwX3_done, List.forall_mem_cons.mpr ⟨cwX4_init, List.forall_mem_cons.mpr ⟨cwX4_make, List.forall_mem_cons.mpr ⟨cwX4_in, List.forall_mem_cons.mpr ⟨cwX4_tally, List.forall_mem_cons.mpr ⟨cwX4_isTally, List.forall_mem_cons.mpr ⟨cwX4_way, List.forall_mem_cons.mpr ⟨cwX4_isBell, List.forall_mem_cons.mpr ⟨cwX4_hearer, List.forall_mem_cons.mpr ⟨cwX4_isHearer, List.forall_mem_cons.mpr ⟨cwX4_bind, List.forall_mem_cons.mpr ⟨cwX4_placeOf, List.forall_mem_cons.mpr ⟨cwX4_put, List.forall_mem_cons.mpr ⟨cwX4_leave, List.forall_mem_cons.mpr ⟨cwX4_out, List.forall_mem_cons.mpr ⟨cwX4_take, List.forall_mem_cons.mpr ⟨cwX4_lend, List.forall_mem_cons.mpr ⟨cwX4_ring, List.forall_mem_cons.mpr ⟨cwX4_ready, List.forall_mem_cons.mpr ⟨cwX4_rings, List.forall_mem_cons.mpr ⟨cwX4_heap, List.forall_mem_cons.mpr ⟨cwX4_all, List.forall_mem_cons.mpr ⟨cwX4_works, List.forall_mem_cons.mpr ⟨cwX4_fails, List.forall_mem_cons.mpr ⟨cwX4_stop, List.forall_mem_cons.mpr ⟨cwX4_does, List.forall_mem_cons.mpr ⟨cwX4_doesOthers, List.forall_mem_cons.mpr ⟨cwX4_begins, List.forall_mem_cons.mpr ⟨cwX4_goesOn, List.forall_mem_cons.mpr ⟨cwX4_drain, List.forall_mem_cons.mpr ⟨cwX4_act, List.forall_mem_cons.mpr ⟨cwX4_get, List.forall_mem_cons.mpr ⟨cwX4_line, List.forall_mem_cons.mpr ⟨cwX4_queued, List.forall_mem_cons.mpr ⟨cwX4_count, List.forall_mem_cons.mpr ⟨cwX4_done, List.forall_mem_cons.mpr ⟨cwX2_init, List.forall_mem_cons.mpr ⟨cwX1_init, fun _ h => absurd h List.not_mem_nil⟩⟩⟩⟩⟩⟩⟩⟩⟩⟩⟩⟩⟩⟩⟩⟩⟩⟩⟩⟩⟩⟩⟩⟩⟩⟩⟩⟩⟩⟩⟩⟩⟩⟩⟩⟩⟩⟩⟩⟩⟩⟩⟩⟩⟩⟩⟩⟩⟩⟩⟩⟩⟩⟩⟩⟩⟩⟩⟩⟩⟩⟩⟩⟩⟩⟩⟩⟩⟩⟩⟩⟩⟩⟩⟩⟩⟩⟩⟩⟩⟩⟩
end
section
/-! EACH INSTRUCTION OF THE MINI-MACHINE IS ONE OF THE MACHINE: mm_G: from here on the machine comes to its end, in every heap that is as the mini-machine has it -/
def mm_Ctx (p : Program) (s : State) (m : MethodId) (args : Array Value) (meth : Method) (c : Code) (D : va_G) (B : Nat × Nat) (M : mm_T) : Prop :=
  p.tables.exec = Jvm.exec ∧ c.code = M.2.2.1 ∧ c.maxLocals = M.2.2.2.1 ∧ s.vm.findClass (mm_cn M.1) = some m.cls ∧ (∀ w ∈ mm_Ws, w.before args s = true) ∧ mm_WF D s ∧ (M.2.1.name = "<init>" → meth.name = "<init>") ∧ B.1 < B.2 ∧ B.2 ≤ s.heap.size
def mm_G (p : Program) (l : Launch) (e : Env) (R : Room) (s : State) (m : MethodId) (args : Array Value) (below : List Frame) (meth : Method) (c : Code) (Q : State → Prop) (D : va_G) (B : Nat × Nat) (M : mm_T) (pc : Nat) (ls : mm_L) (st : List Value) (h : mm_H) (cells slots : Nat) : Prop :=
  ∀ (H : Heap) (locs : List Loc) (lsA : Array Slot), mm_HP D B h H → va_S (fun q => B.2 ≤ q) s.heap H locs → lv_has lsA M.2.2.2.1 (mm_mp B ls) → W p l e R s m args below meth c H locs cells slots Q (F0 m pc lsA (st.map (mm_sh B)))
section MG
variable {p : Program} {l : Launch} {e : Env} {R : Room} {s : State} {m : MethodId} {args : Array Value} {below : List Frame} {meth : Method} {c : Code} {Q : State → Prop} {D : va_G} {B : Nat × Nat} {M : mm_T}
variable {pc cells slots : Nat} {ls : mm_L} {st r : List Value} {h : mm_H}
theorem mg_iconst (C : mm_Ctx p s m args meth c D B M) {n : Int} (hd : decode M.2.2.1 pc = .ok (.iconst n, 1)) (k : mm_G p l e R s m args below meth c Q D B M (pc + 1) ls (.int (Int32.ofInt n) :: st) h cells slots) : mm_G p l e R s m args below meth c Q D B M pc ls st h cells slots := fun H locs lsA hP hS hl => lv_iconst C.1 C.2.1 hd rfl (k H locs lsA hP hS hl)
theorem mg_bipush (C : mm_Ctx p s m args meth c D B M) {n : Int} (hd : decode M.2.2.1 pc = .ok (.bipush n, 2)) (k : mm_G p l e R s m args below meth c Q D B M (pc + 2) ls (.int (Int8.ofInt n).toInt32 :: st) h cells slots) : mm_G p l e R s m args below meth c Q D B M pc ls st h cells slots := fun H locs lsA hP hS hl => lv_bipush C.1 C.2.1 hd rfl (k H locs lsA hP hS hl)
theorem mg_sipush (C : mm_Ctx p s m args meth c D B M) {n : Int} (hd : decode M.2.2.1 pc = .ok (.sipush n, 3)) (k : mm_G p l e R s m args below meth c Q D B M (pc + 3) ls (.int (Int16.ofInt n).toInt32 :: st) h cells slots) : mm_G p l e R s m args below meth c Q D B M pc ls st h cells slots := fun H locs lsA hP hS hl => lv_sipush C.1 C.2.1 hd rfl (k H locs lsA hP hS hl)
theorem mg_lconst (C : mm_Ctx p s m args meth c D B M) {n : Fin 2} (hd : decode M.2.2.1 pc = .ok (.lconst n, 1)) (k : mm_G p l e R s m args below meth c Q D B M (pc + 1) ls (.long (Int64.ofNat (n : Nat)) :: st) h cells slots) : mm_G p l e R s m args below meth c Q D B M pc ls st h cells slots := fun H locs lsA hP hS hl => lv_lconst C.1 C.2.1 hd rfl (k H locs lsA hP hS hl)
theorem mg_null (C : mm_Ctx p s m args meth c D B M) (hd : decode M.2.2.1 pc = .ok (.aconst_null, 1)) (k : mm_G p l e R s m args below meth c Q D B M (pc + 1) ls (.null :: st) h cells slots) : mm_G p l e R s m args below meth c Q D B M pc ls st h cells slots := fun H locs lsA hP hS hl => lv_null C.1 C.2.1 hd (k H locs lsA hP hS hl)
theorem mg_ldc (C : mm_Ctx p s m args meth c D B M) {i : Nat} {x : Int64} (hd : decode M.2.2.1 pc = .ok (.ldc2_w i, 3)) (hx : mm_ldc M.1 i = some x) (k : mm_G p l e R s m args below meth c Q D B M (pc + 3) ls (.long x :: st) h cells slots) : mm_G p l e R s m args below meth c Q D B M pc ls st h cells slots := fun H locs lsA hP hS hl => by
  obtain ⟨q, hq, hv⟩ := Option.map_eq_some_iff.mp hx
  have h1 := List.find?_some hq
  have h2 := mm_ldcL_ok q (List.mem_of_find?_eq_some hq)
  simp only [Bool.and_eq_true, beq_iff_eq] at h1
  rw [h1.1, h1.2, hv] at h2
  exact lv_ldc2 C.1 C.2.1 C.2.2.2.1 (C.2.2.2.2.1 _ h2) hd (k H locs lsA hP hS hl)
theorem mg_iload_n (C : mm_Ctx p s m args meth c D B M) {i : Fin 4} {x : Int32} (hd : decode M.2.2.1 pc = .ok (.iload_n i, 1)) (hx : mm_lk ls i = some (.int x)) (k : mm_G p l e R s m args below meth c Q D B M (pc + 1) ls (.int x :: st) h cells slots) : mm_G p l e R s m args below meth c Q D B M pc ls st h cells slots := fun H locs lsA hP hS hl => lv_iload_n C.1 C.2.1 hd rfl (mm_lk_has hl hx) (k H locs lsA hP hS hl)
theorem mg_iload (C : mm_Ctx p s m args meth c D B M) {i : Nat} {x : Int32} (hd : decode M.2.2.1 pc = .ok (.iload i, 2)) (hx : mm_lk ls i = some (.int x)) (k : mm_G p l e R s m args below meth c Q D B M (pc + 2) ls (.int x :: st) h cells slots) : mm_G p l e R s m args below meth c Q D B M pc ls st h cells slots := fun H locs lsA hP hS hl => lv_iload C.1 C.2.1 hd (mm_lk_has hl hx) (k H locs lsA hP hS hl)
theorem mg_lload_n (C : mm_Ctx p s m args meth c D B M) {i : Fin 4} {x : Int64} (hd : decode M.2.2.1 pc = .ok (.lload_n i, 1)) (hx : mm_lk ls i = some (.long x)) (k : mm_G p l e R s m args below meth c Q D B M (pc + 1) ls (.long x :: st) h cells slots) : mm_G p l e R s m args below meth c Q D B M pc ls st h cells slots := fun H locs lsA hP hS hl => lv_lload_n C.1 C.2.1 hd rfl (mm_lk_has hl hx) (k H locs lsA hP hS hl)
theorem mg_lload (C : mm_Ctx p s m args meth c D B M) {i : Nat} {x : Int64} (hd : decode M.2.2.1 pc = .ok (.lload i, 2)) (hx : mm_lk ls i = some (.long x)) (k : mm_G p l e R s m args below meth c Q D B M (pc + 2) ls (.long x :: st) h cells slots) : mm_G p l e R s m args below meth c Q D B M pc ls st h cells slots := fun H locs lsA hP hS hl => lv_lload C.1 C.2.1 hd (mm_lk_has hl hx) (k H locs lsA hP hS hl)
theorem mg_aload_n (C : mm_Ctx p s m args meth c D B M) {i : Fin 4} {x : Nat} (hd : decode M.2.2.1 pc = .ok (.aload_n i, 1)) (hx : mm_lk ls i = some (.ref x)) (k : mm_G p l e R s m args below meth c Q D B M (pc + 1) ls (.ref x :: st) h cells slots) : mm_G p l e R s m args below meth c Q D B M pc ls st h cells slots := fun H locs lsA hP hS hl => lv_aload_n C.1 C.2.1 hd rfl (mm_lk_has hl hx) (k H locs lsA hP hS hl)
theorem mg_aload (C : mm_Ctx p s m args meth c D B M) {i : Nat} {x : Nat} (hd : decode M.2.2.1 pc = .ok (.aload i, 2)) (hx : mm_lk ls i = some (.ref x)) (k : mm_G p l e R s m args below meth c Q D B M (pc + 2) ls (.ref x :: st) h cells slots) : mm_G p l e R s m args below meth c Q D B M pc ls st h cells slots := fun H locs lsA hP hS hl => lv_aload C.1 C.2.1 hd (mm_lk_has hl hx) (k H locs lsA hP hS hl)
theorem mg_aload_nN (C : mm_Ctx p s m args meth c D B M) {i : Fin 4} (hd : decode M.2.2.1 pc = .ok (.aload_n i, 1)) (hx : mm_lk ls i = some .null) (k : mm_G p l e R s m args below meth c Q D B M (pc + 1) ls (.null :: st) h cells slots) : mm_G p l e R s m args below meth c Q D B M pc ls st h cells slots := fun H locs lsA hP hS hl => lv_aload_nN C.1 C.2.1 hd rfl (mm_lk_has hl hx) (k H locs lsA hP hS hl)
theorem mg_aloadN (C : mm_Ctx p s m args meth c D B M) {i : Nat} (hd : decode M.2.2.1 pc = .ok (.aload i, 2)) (hx : mm_lk ls i = some .null) (k : mm_G p l e R s m args below meth c Q D B M (pc + 2) ls (.null :: st) h cells slots) : mm_G p l e R s m args below meth c Q D B M pc ls st h cells slots := fun H locs lsA hP hS hl => lv_aloadN C.1 C.2.1 hd (mm_lk_has hl hx) (k H locs lsA hP hS hl)
theorem mg_istore_n (C : mm_Ctx p s m args meth c D B M) {i : Fin 4} {x : Int32} (hd : decode M.2.2.1 pc = .ok (.istore_n i, 1)) (hi : (i : Nat) < M.2.2.2.1) (k : mm_G p l e R s m args below meth c Q D B M (pc + 1) (mm_st1 ls i (.int x)) r h cells slots) : mm_G p l e R s m args below meth c Q D B M pc ls (.int x :: r) h cells slots := fun H locs lsA hP hS hl => lv_istore_n C.1 C.2.1 hd rfl hl hi (mm_mp_st1 B ls i (.int x)) (fun ls' hl' => k H locs ls' hP hS hl')
theorem mg_istore (C : mm_Ctx p s m args meth c D B M) {i : Nat} {x : Int32} (hd : decode M.2.2.1 pc = .ok (.istore i, 2)) (hi : i < M.2.2.2.1) (k : mm_G p l e R s m args below meth c Q D B M (pc + 2) (mm_st1 ls i (.int x)) r h cells slots) : mm_G p l e R s m args below meth c Q D B M pc ls (.int x :: r) h cells slots := fun H locs lsA hP hS hl => lv_istore C.1 C.2.1 hd hl hi (mm_mp_st1 B ls i (.int x)) (fun ls' hl' => k H locs ls' hP hS hl')
theorem mg_lstore_n (C : mm_Ctx p s m args meth c D B M) {i : Fin 4} {x : Int64} (hd : decode M.2.2.1 pc = .ok (.lstore_n i, 1)) (hi : (i : Nat) + 1 < M.2.2.2.1) (k : mm_G p l e R s m args below meth c Q D B M (pc + 1) (mm_st2 ls i (.long x)) r h cells slots) : mm_G p l e R s m args below meth c Q D B M pc ls (.long x :: r) h cells slots := fun H locs lsA hP hS hl => lv_lstore_n C.1 C.2.1 hd rfl hl hi (mm_mp_st2 B ls i (.long x)) (fun ls' hl' => k H locs ls' hP hS hl')
theorem mg_lstore (C : mm_Ctx p s m args meth c D B M) {i : Nat} {x : Int64} (hd : decode M.2.2.1 pc = .ok (.lstore i, 2)) (hi : i + 1 < M.2.2.2.1) (k : mm_G p l e R s m args below meth c Q D B M (pc + 2) (mm_st2 ls i (.long x)) r h cells slots) : mm_G p l e R s m args below meth c Q D B M pc ls (.long x :: r) h cells slots := fun H locs lsA hP hS hl => lv_lstore C.1 C.2.1 hd hl hi (mm_mp_st2 B ls i (.long x)) (fun ls' hl' => k H locs ls' hP hS hl')
theorem mg_astore_n (C : mm_Ctx p s m args meth c D B M) {i : Fin 4} {x : Nat} (hd : decode M.2.2.1 pc = .ok (.astore_n i, 1)) (hi : (i : Nat) < M.2.2.2.1) (k : mm_G p l e R s m args below meth c Q D B M (pc + 1) (mm_st1 ls i (.ref x)) r h cells slots) : mm_G p l e R s m args below meth c Q D B M pc ls (.ref x :: r) h cells slots := fun H locs lsA hP hS hl => lv_astore_n C.1 C.2.1 hd rfl hl hi (mm_mp_st1 B ls i (.ref x)) (fun ls' hl' => k H locs ls' hP hS hl')
theorem mg_astore (C : mm_Ctx p s m args meth c D B M) {i : Nat} {x : Nat} (hd : decode M.2.2.1 pc = .ok (.astore i, 2)) (hi : i < M.2.2.2.1) (k : mm_G p l e R s m args below meth c Q D B M (pc + 2) (mm_st1 ls i (.ref x)) r h cells slots) : mm_G p l e R s m args below meth c Q D B M pc ls (.ref x :: r) h cells slots := fun H locs lsA hP hS hl => lv_astore C.1 C.2.1 hd hl hi (mm_mp_st1 B ls i (.ref x)) (fun ls' hl' => k H locs ls' hP hS hl')
theorem mg_astore_nN (C : mm_Ctx p s m args meth c D B M) {i : Fin 4} (hd : decode M.2.2.1 pc = .ok (.astore_n i, 1)) (hi : (i : Nat) < M.2.2.2.1) (k : mm_G p l e R s m args below meth c Q D B M (pc + 1) (mm_st1 ls i .null) r h cells slots) : mm_G p l e R s m args below meth c Q D B M pc ls (.null :: r) h cells slots := fun H locs lsA hP hS hl => lv_astore_nN C.1 C.2.1 hd rfl hl hi (mm_mp_st1 B ls i .null) (fun ls' hl' => k H locs ls' hP hS hl')
theorem mg_astoreN (C : mm_Ctx p s m args meth c D B M) {i : Nat} (hd : decode M.2.2.1 pc = .ok (.astore i, 2)) (hi : i < M.2.2.2.1) (k : mm_G p l e R s m args below meth c Q D B M (pc + 2) (mm_st1 ls i .null) r h cells slots) : mm_G p l e R s m args below meth c Q D B M pc ls (.null :: r) h cells slots := fun H locs lsA hP hS hl => lv_astoreN C.1 C.2.1 hd hl hi (mm_mp_st1 B ls i .null) (fun ls' hl' => k H locs ls' hP hS hl')
theorem mg_iinc (C : mm_Ctx p s m args meth c D B M) {i : Nat} {n : Int} {x : Int32} (hd : decode M.2.2.1 pc = .ok (.iinc i n, 3)) (hx : mm_lk ls i = some (.int x)) (hi : i < M.2.2.2.1) (k : mm_G p l e R s m args below meth c Q D B M (pc + 3) (mm_st1 ls i (.int (x + Int32.ofInt n))) st h cells slots) : mm_G p l e R s m args below meth c Q D B M pc ls st h cells slots := fun H locs lsA hP hS hl => by
  obtain ⟨q, hq, hv⟩ := Option.map_eq_some_iff.mp hx
  have h1 : q.1 = i := by simpa using List.find?_some hq
  have h2 : ((i, Value.int x) : Nat × Value) ∈ mm_mp B ls := List.mem_map.mpr ⟨q, List.mem_of_find?_eq_some hq, by rw [h1, hv]; rfl⟩
  obtain ⟨j, hj⟩ := List.getElem?_of_mem h2
  exact lv_iinc C.1 C.2.1 hd hl hj rfl hi (mm_mp_st1 B ls i (.int (x + Int32.ofInt n))) (fun ls' hl' => k H locs ls' hP hS hl')
theorem mg_iadd (C : mm_Ctx p s m args meth c D B M) {x y : Int32} (hd : decode M.2.2.1 pc = .ok (.iadd, 1)) (k : mm_G p l e R s m args below meth c Q D B M (pc + 1) ls (.int (x + y) :: r) h cells slots) : mm_G p l e R s m args below meth c Q D B M pc ls (.int y :: .int x :: r) h cells slots := fun H locs lsA hP hS hl => lv_iadd C.1 C.2.1 hd (k H locs lsA hP hS hl)
theorem mg_isub (C : mm_Ctx p s m args meth c D B M) {x y : Int32} (hd : decode M.2.2.1 pc = .ok (.isub, 1)) (k : mm_G p l e R s m args below meth c Q D B M (pc + 1) ls (.int (x - y) :: r) h cells slots) : mm_G p l e R s m args below meth c Q D B M pc ls (.int y :: .int x :: r) h cells slots := fun H locs lsA hP hS hl => lv_isub C.1 C.2.1 hd (k H locs lsA hP hS hl)
theorem mg_imul (C : mm_Ctx p s m args meth c D B M) {x y : Int32} (hd : decode M.2.2.1 pc = .ok (.imul, 1)) (k : mm_G p l e R s m args below meth c Q D B M (pc + 1) ls (.int (x * y) :: r) h cells slots) : mm_G p l e R s m args below meth c Q D B M pc ls (.int y :: .int x :: r) h cells slots := fun H locs lsA hP hS hl => lv_imul C.1 C.2.1 hd (k H locs lsA hP hS hl)
theorem mg_iand (C : mm_Ctx p s m args meth c D B M) {x y : Int32} (hd : decode M.2.2.1 pc = .ok (.iand, 1)) (k : mm_G p l e R s m args below meth c Q D B M (pc + 1) ls (.int (x &&& y) :: r) h cells slots) : mm_G p l e R s m args below meth c Q D B M pc ls (.int y :: .int x :: r) h cells slots := fun H locs lsA hP hS hl => lv_iand C.1 C.2.1 hd (k H locs lsA hP hS hl)
theorem mg_irem (C : mm_Ctx p s m args meth c D B M) {x y : Int32} (hd : decode M.2.2.1 pc = .ok (.irem, 1)) (hy : ¬ y = 0) (k : mm_G p l e R s m args below meth c Q D B M (pc + 1) ls (.int (x - x / y * y) :: r) h cells slots) : mm_G p l e R s m args below meth c Q D B M pc ls (.int y :: .int x :: r) h cells slots := fun H locs lsA hP hS hl => lv_irem C.1 C.2.1 hd hy (k H locs lsA hP hS hl)
theorem mg_ladd (C : mm_Ctx p s m args meth c D B M) {x y : Int64} (hd : decode M.2.2.1 pc = .ok (.ladd, 1)) (k : mm_G p l e R s m args below meth c Q D B M (pc + 1) ls (.long (x + y) :: r) h cells slots) : mm_G p l e R s m args below meth c Q D B M pc ls (.long y :: .long x :: r) h cells slots := fun H locs lsA hP hS hl => lv_ladd C.1 C.2.1 hd (k H locs lsA hP hS hl)
theorem mg_land (C : mm_Ctx p s m args meth c D B M) {x y : Int64} (hd : decode M.2.2.1 pc = .ok (.land, 1)) (k : mm_G p l e R s m args below meth c Q D B M (pc + 1) ls (.long (x &&& y) :: r) h cells slots) : mm_G p l e R s m args below meth c Q D B M pc ls (.long y :: .long x :: r) h cells slots := fun H locs lsA hP hS hl => lv_land C.1 C.2.1 hd (k H locs lsA hP hS hl)
theorem mg_lor (C : mm_Ctx p s m args meth c D B M) {x y : Int64} (hd : decode M.2.2.1 pc = .ok (.lor, 1)) (k : mm_G p l e R s m args below meth c Q D B M (pc + 1) ls (.long (x ||| y) :: r) h cells slots) : mm_G p l e R s m args below meth c Q D B M pc ls (.long y :: .long x :: r) h cells slots := fun H locs lsA hP hS hl => lv_lor C.1 C.2.1 hd (k H locs lsA hP hS hl)
theorem mg_ldiv (C : mm_Ctx p s m args meth c D B M) {x y : Int64} (hd : decode M.2.2.1 pc = .ok (.ldiv, 1)) (hy : ¬ y = 0) (k : mm_G p l e R s m args below meth c Q D B M (pc + 1) ls (.long (x / y) :: r) h cells slots) : mm_G p l e R s m args below meth c Q D B M pc ls (.long y :: .long x :: r) h cells slots := fun H locs lsA hP hS hl => lv_ldiv C.1 C.2.1 hd hy (k H locs lsA hP hS hl)
theorem mg_lshl (C : mm_Ctx p s m args meth c D B M) {x : Int64} {y : Int32} (hd : decode M.2.2.1 pc = .ok (.lshl, 1)) (k : mm_G p l e R s m args below meth c Q D B M (pc + 1) ls (.long (x <<< (y.toInt64 &&& 63)) :: r) h cells slots) : mm_G p l e R s m args below meth c Q D B M pc ls (.int y :: .long x :: r) h cells slots := fun H locs lsA hP hS hl => lv_lshl C.1 C.2.1 hd rfl (k H locs lsA hP hS hl)
theorem mg_lcmp (C : mm_Ctx p s m args meth c D B M) {x y : Int64} (hd : decode M.2.2.1 pc = .ok (.lcmp, 1)) (k : mm_G p l e R s m args below meth c Q D B M (pc + 1) ls (.int (lg_cmp x y) :: r) h cells slots) : mm_G p l e R s m args below meth c Q D B M pc ls (.long y :: .long x :: r) h cells slots := fun H locs lsA hP hS hl => W.lcmp C.1 C.2.1 hd (k H locs lsA hP hS hl)
theorem mg_i2l (C : mm_Ctx p s m args meth c D B M) {x : Int32} (hd : decode M.2.2.1 pc = .ok (.i2l, 1)) (k : mm_G p l e R s m args below meth c Q D B M (pc + 1) ls (.long x.toInt64 :: r) h cells slots) : mm_G p l e R s m args below meth c Q D B M pc ls (.int x :: r) h cells slots := fun H locs lsA hP hS hl => lv_i2l C.1 C.2.1 hd rfl (k H locs lsA hP hS hl)
theorem mg_l2i (C : mm_Ctx p s m args meth c D B M) {x : Int64} (hd : decode M.2.2.1 pc = .ok (.l2i, 1)) (k : mm_G p l e R s m args below meth c Q D B M (pc + 1) ls (.int x.toInt32 :: r) h cells slots) : mm_G p l e R s m args below meth c Q D B M pc ls (.long x :: r) h cells slots := fun H locs lsA hP hS hl => lv_l2i C.1 C.2.1 hd rfl (k H locs lsA hP hS hl)
theorem mg_dup (C : mm_Ctx p s m args meth c D B M) {v : Value} (hd : decode M.2.2.1 pc = .ok (.dup, 1)) (hv : v.category = 1) (k : mm_G p l e R s m args below meth c Q D B M (pc + 1) ls (v :: v :: r) h cells slots) : mm_G p l e R s m args below meth c Q D B M pc ls (v :: r) h cells slots := fun H locs lsA hP hS hl => lv_dup C.1 C.2.1 hd (by rw [mm_sh_cat]; exact hv) (k H locs lsA hP hS hl)
theorem mg_pop (C : mm_Ctx p s m args meth c D B M) {v : Value} (hd : decode M.2.2.1 pc = .ok (.pop, 1)) (hv : v.category = 1) (k : mm_G p l e R s m args below meth c Q D B M (pc + 1) ls r h cells slots) : mm_G p l e R s m args below meth c Q D B M pc ls (v :: r) h cells slots := fun H locs lsA hP hS hl => lv_pop C.1 C.2.1 hd (by rw [mm_sh_cat]; exact hv) (k H locs lsA hP hS hl)
theorem mg_dup_x1 (C : mm_Ctx p s m args meth c D B M) {v u : Value} (hd : decode M.2.2.1 pc = .ok (.dup_x1, 1)) (hv : v.category = 1) (hu : u.category = 1) (k : mm_G p l e R s m args below meth c Q D B M (pc + 1) ls (v :: u :: v :: r) h cells slots) : mm_G p l e R s m args below meth c Q D B M pc ls (v :: u :: r) h cells slots := fun H locs lsA hP hS hl => lv_dup_x1 C.1 C.2.1 hd (by rw [mm_sh_cat]; exact hv) (by rw [mm_sh_cat]; exact hu) (k H locs lsA hP hS hl)
theorem mg_dup2 (C : mm_Ctx p s m args meth c D B M) {v u : Value} (hd : decode M.2.2.1 pc = .ok (.dup2, 1)) (hv : v.category = 1) (hu : u.category = 1) (k : mm_G p l e R s m args below meth c Q D B M (pc + 1) ls (v :: u :: v :: u :: r) h cells slots) : mm_G p l e R s m args below meth c Q D B M pc ls (v :: u :: r) h cells slots := fun H locs lsA hP hS hl => lv_dup2_11 C.1 C.2.1 hd (by rw [mm_sh_cat]; exact hv) (by rw [mm_sh_cat]; exact hu) (k H locs lsA hP hS hl)
theorem mg_if (C : mm_Ctx p s m args meth c D B M) {cd : Jvm.ClassFile.Cond} {x : Int32} {off : Int} (hd : decode M.2.2.1 pc = .ok (.ifCond cd off, 3)) (h0 : mm_cmp cd x 0 = true → 0 ≤ (pc : Int) + off) (kt : mm_cmp cd x 0 = true → mm_G p l e R s m args below meth c Q D B M ((pc : Int) + off).toNat ls r h cells slots) (kf : ¬ mm_cmp cd x 0 = true → mm_G p l e R s m args below meth c Q D B M (pc + 3) ls r h cells slots) : mm_G p l e R s m args below meth c Q D B M pc ls (.int x :: r) h cells slots := fun H locs lsA hP hS hl => by
  by_cases hc : mm_cmp cd x 0 = true
  · have ht : (pc : Int) + off = ((((pc : Int) + off).toNat : Nat) : Int) := by have := h0 hc; omega
    have k := kt hc H locs lsA hP hS hl
    cases cd <;> simp only [mm_cmp, decide_eq_true_eq] at hc
    · exact lv_if_eq C.1 C.2.1 hd ht (fun _ => k) (fun q => absurd hc q)
    · exact lv_if_ne C.1 C.2.1 hd ht (fun _ => k) (fun q => absurd q hc)
    · exact lv_if_lt C.1 C.2.1 hd ht (fun _ => k) (fun q => absurd hc q)
    · exact lv_if_ge C.1 C.2.1 hd ht (fun _ => k) (fun q => absurd hc q)
    · exact lv_if_gt C.1 C.2.1 hd ht (fun _ => k) (fun q => absurd hc q)
    · exact lv_if_le C.1 C.2.1 hd ht (fun _ => k) (fun q => absurd hc q)
  · have k := kf hc H locs lsA hP hS hl
    have key : ∀ (g : JFrame), (∀ T, At T m c below → ∀ tg, Steps p.tables e below (T.setTop (F0 m (pc + 3) lsA (r.map (mm_sh B)))) tg → Steps p.tables e below (T.setTop g) tg) → W p l e R s m args below meth c H locs cells slots Q g := fun g hg => W.go hg k
    refine key _ (fun T hT tg a => ?_)
    cases cd <;> simp only [mm_cmp, decide_eq_true_eq] at hc
    all_goals
      try replace hc := Classical.not_not.mp hc
      show Steps p.tables e below (T.setTop (F0 m pc lsA (.int x :: r.map (mm_sh B)))) tg
      jvm_step hT [hT.top, C.1, C.2.1, hd, Op.ifCond.holds, hc]
      exact a
theorem mg_icmp (C : mm_Ctx p s m args meth c D B M) {cd : Jvm.ClassFile.Cond} {x y : Int32} {off : Int} (hd : decode M.2.2.1 pc = .ok (.if_icmp cd off, 3)) (h0 : mm_cmp cd x y = true → 0 ≤ (pc : Int) + off) (kt : mm_cmp cd x y = true → mm_G p l e R s m args below meth c Q D B M ((pc : Int) + off).toNat ls r h cells slots) (kf : ¬ mm_cmp cd x y = true → mm_G p l e R s m args below meth c Q D B M (pc + 3) ls r h cells slots) : mm_G p l e R s m args below meth c Q D B M pc ls (.int y :: .int x :: r) h cells slots := fun H locs lsA hP hS hl => by
  by_cases hc : mm_cmp cd x y = true
  · have ht : (pc : Int) + off = ((((pc : Int) + off).toNat : Nat) : Int) := by have := h0 hc; omega
    have k := kt hc H locs lsA hP hS hl
    cases cd <;> simp only [mm_cmp, decide_eq_true_eq] at hc
    · exact lv_icmp_eq C.1 C.2.1 hd ht (fun _ => k) (fun q => absurd hc q)
    · exact lv_icmp_ne C.1 C.2.1 hd ht (fun _ => k) (fun q => absurd q hc)
    · exact lv_icmp_lt C.1 C.2.1 hd ht (fun _ => k) (fun q => absurd hc q)
    · exact lv_icmp_ge C.1 C.2.1 hd ht (fun _ => k) (fun q => absurd hc q)
    · exact lv_icmp_gt C.1 C.2.1 hd ht (fun _ => k) (fun q => absurd hc q)
    · exact lv_icmp_le C.1 C.2.1 hd ht (fun _ => k) (fun q => absurd hc q)
  · have k := kf hc H locs lsA hP hS hl
    refine W.go (fun T hT tg a => ?_) k
    cases cd <;> simp only [mm_cmp, decide_eq_true_eq] at hc
    all_goals
      try replace hc := Classical.not_not.mp hc
      show Steps p.tables e below (T.setTop (F0 m pc lsA (.int y :: .int x :: r.map (mm_sh B)))) tg
      jvm_step hT [hT.top, C.1, C.2.1, hd, Op.if_icmp.holds, hc]
      exact a
theorem mg_goto (C : mm_Ctx p s m args meth c D B M) {off : Int} (hd : decode M.2.2.1 pc = .ok (.goto off, 3)) (h0 : 0 ≤ (pc : Int) + off) (k : mm_G p l e R s m args below meth c Q D B M ((pc : Int) + off).toNat ls st h cells slots) : mm_G p l e R s m args below meth c Q D B M pc ls st h cells slots := fun H locs lsA hP hS hl => lv_goto C.1 C.2.1 hd (show (pc : Int) + off = ((((pc : Int) + off).toNat : Nat) : Int) by omega) (k H locs lsA hP hS hl)
theorem mg_nonnull (C : mm_Ctx p s m args meth c D B M) {off : Int} {a : Nat} (hd : decode M.2.2.1 pc = .ok (.ifnonnull off, 3)) (h0 : 0 ≤ (pc : Int) + off) (k : mm_G p l e R s m args below meth c Q D B M ((pc : Int) + off).toNat ls r h cells slots) : mm_G p l e R s m args below meth c Q D B M pc ls (.ref a :: r) h cells slots := fun H locs lsA hP hS hl => lv_ifnonnull C.1 C.2.1 hd (show (pc : Int) + off = ((((pc : Int) + off).toNat : Nat) : Int) by omega) (k H locs lsA hP hS hl)
theorem mg_nonnullN (C : mm_Ctx p s m args meth c D B M) {off : Int} (hd : decode M.2.2.1 pc = .ok (.ifnonnull off, 3)) (k : mm_G p l e R s m args below meth c Q D B M (pc + 3) ls r h cells slots) : mm_G p l e R s m args below meth c Q D B M pc ls (.null :: r) h cells slots := fun H locs lsA hP hS hl => lv_ifnonnullN C.1 C.2.1 hd (k H locs lsA hP hS hl)
theorem mg_tabOut (C : mm_Ctx p s m args meth c D B M) {d lo hi : Int} {offs : Array Int} {len : Nat} {x : Int32} (hd : decode M.2.2.1 pc = .ok (.tableswitch d lo hi offs, len)) (hx : x.toInt < lo ∨ hi < x.toInt) (h0 : 0 ≤ (pc : Int) + d) (k : mm_G p l e R s m args below meth c Q D B M ((pc : Int) + d).toNat ls r h cells slots) : mm_G p l e R s m args below meth c Q D B M pc ls (.int x :: r) h cells slots := fun H locs lsA hP hS hl => lv_tableOut C.1 C.2.1 hd hx (show (pc : Int) + d = ((((pc : Int) + d).toNat : Nat) : Int) by omega) (k H locs lsA hP hS hl)
theorem mg_tabIn (C : mm_Ctx p s m args meth c D B M) {d lo hi o : Int} {offs : Array Int} {len : Nat} {x : Int32} (hd : decode M.2.2.1 pc = .ok (.tableswitch d lo hi offs, len)) (hx : ¬ (x.toInt < lo ∨ hi < x.toInt)) (ho : offs[(x.toInt - lo).toNat]? = some o) (h0 : 0 ≤ (pc : Int) + o) (k : mm_G p l e R s m args below meth c Q D B M ((pc : Int) + o).toNat ls r h cells slots) : mm_G p l e R s m args below meth c Q D B M pc ls (.int x :: r) h cells slots := fun H locs lsA hP hS hl => lv_tableIn C.1 C.2.1 hd (fun q => hx (Or.inl q)) (fun q => hx (Or.inr q)) ho (show (pc : Int) + o = ((((pc : Int) + o).toNat : Nat) : Int) by omega) (k H locs lsA hP hS hl)
end MG
end
section
/-! the instructions that read and write the heap -/
theorem mm_fld_spec {o i ci k : Nat} (h : mm_fld o i = some (ci, k)) : ci < 5 ∧ k < mm_N ci ∧ Cond.fieldLink (mm_cn o) i (mm_F ci k).1 (mm_F ci k).2.1 (mm_F ci k).2.2.1 ∈ mm_Ws ∧ (mm_F ci k).1 = mm_cn ci := by
  obtain ⟨q, hq, hv⟩ := Option.map_eq_some_iff.mp h
  have h1 := List.find?_some hq
  have h2 := mm_fldL_ok q (List.mem_of_find?_eq_some hq)
  simp only [Bool.and_eq_true, beq_iff_eq] at h1
  rw [h1.1, h1.2, hv] at h2
  exact h2
theorem mm_cls_spec {o i k : Nat} (h : mm_cls o i = some k) : (k < 5 → Cond.classLink (mm_cn o) i (mm_cn k) ∈ mm_Ws ∧ Cond.instantiable (mm_cn k) (mm_N k) ∈ mm_Ws ∧ Cond.initialized (mm_cn k) ∈ mm_Ws) ∧ (k = 9 → Cond.classLink (mm_cn o) i ("[" ++ (FieldType.array .int).toString) ∈ mm_Ws) := by
  obtain ⟨q, hq, hv⟩ := Option.map_eq_some_iff.mp h
  have h1 := List.find?_some hq
  have h2 := mm_clsL_ok q (List.mem_of_find?_eq_some hq)
  simp only [Bool.and_eq_true, beq_iff_eq] at h1
  rw [h1.1, h1.2, hv] at h2
  exact h2
theorem mm_max_spec {o i k : Nat} (h : mm_max o i = some k) : (k = 0 → Cond.methodLink (mm_cn o) i Lib.Math.max.name ∈ mm_Ws) ∧ (k = 1 → Cond.methodLink (mm_cn o) i Lib.MathLoose.max_long.x ∈ mm_Ws) := by
  obtain ⟨q, hq, hv⟩ := Option.map_eq_some_iff.mp h
  have h1 := List.find?_some hq
  have h2 := mm_maxL_ok q (List.mem_of_find?_eq_some hq)
  simp only [Bool.and_eq_true, beq_iff_eq] at h1
  rw [h1.1, h1.2, hv] at h2
  exact h2
theorem mm_sh_nar {B : Nat × Nat} {ty : FieldType} {v : Value} (h : narrow ty v = v) : narrow ty (mm_sh B v) = mm_sh B v := by
  cases v <;> first | exact h | (cases ty <;> rfl)
theorem mm_sh_fit {B : Nat × Nat} {ty : FieldType} {v : Value} (h : fits ty v = true) : fits ty (mm_sh B v) = true := by
  cases v <;> first | exact h | (cases ty <;> first | rfl | (exact absurd h (by decide)) | exact h)
theorem mm_arrV {cA : ClassId} {n : Nat} {f g : Nat → Value} (h : ∀ j, j < n → f j = g j) : arrV cA n f = arrV cA n g := by
  unfold arrV
  congr 2
  funext j
  exact h j.val j.isLt
theorem mm_sh_df (B : Nat × Nat) (t : FieldType) : mm_sh B (defaultValue t) = defaultValue t := by cases t <;> rfl
theorem mm_cellO {D : va_G} {B : Nat × Nat} {a ci : Nat} {fs : List Value} {H : Heap} (h5 : ci < 5) (h : mm_cell D B a (ci, fs) H) : fs.length = mm_N ci ∧ t_OB (mm_am B a) (D.1 ci) (mm_N ci) (D.2 ci) H (vp_V (fs.map (mm_sh B))) := by
  unfold mm_cell at h
  rw [if_pos (show (ci, fs).1 < 5 from h5)] at h
  exact h
theorem mm_cellA {D : va_G} {B : Nat × Nat} {a ci : Nat} {fs : List Value} {H : Heap} (h5 : ¬ ci < 5) (h : mm_cell D B a (ci, fs) H) : H[mm_am B a]? = some (arrV (D.1 ci) fs.length (vp_V (fs.map (mm_sh B)))) := by
  unfold mm_cell at h
  rw [if_neg (show ¬ (ci, fs).1 < 5 from h5)] at h
  exact h
theorem mm_ofA {D : va_G} {B : Nat × Nat} {a ci : Nat} {fs : List Value} {H : Heap} (h5 : ¬ ci < 5) (h : H[mm_am B a]? = some (arrV (D.1 ci) fs.length (vp_V (fs.map (mm_sh B))))) : mm_cell D B a (ci, fs) H := by
  unfold mm_cell
  rw [if_neg (show ¬ (ci, fs).1 < 5 from h5)]
  exact h
theorem mm_vV {B : Nat × Nat} {fs : List Value} {j : Nat} {v : Value} (h : fs[j]? = some v) : vp_V (fs.map (mm_sh B)) j = mm_sh B v := by
  simp [vp_V, List.getD, h]
theorem mm_setA {B : Nat × Nat} {cA : ClassId} {fs : List Value} {k : Nat} (hk : k < fs.length) (v : Value) : (arrV cA fs.length (vp_V (fs.map (mm_sh B)))).setSlot k (mm_sh B v) = arrV cA (fs.set k v).length (vp_V ((fs.set k v).map (mm_sh B))) := by
  rw [arrV_store, List.length_set]
  refine mm_arrV (fun j _ => ?_)
  rw [vp_updV_set (by rw [List.length_map]; exact hk), List.map_set]
theorem mm_ix_spec {vs : List Value} {j : Int32} {v : Value} (h : mm_ix vs j = some v) : ¬ j < 0 ∧ j.toNatClampNeg < vs.length ∧ vs[j.toNatClampNeg]? = some v := by
  unfold mm_ix at h
  by_cases hj : j < 0
  · rw [if_pos hj] at h
    cases h
  · rw [if_neg hj] at h
    exact ⟨hj, (List.getElem?_eq_some_iff.mp h).1, h⟩
section MG
variable {p : Program} {l : Launch} {e : Env} {R : Room} {s : State} {m : MethodId} {args : Array Value} {below : List Frame} {meth : Method} {c : Code} {Q : State → Prop} {D : va_G} {B : Nat × Nat} {M : mm_T}
variable {pc cells slots : Nat} {ls : mm_L} {st r : List Value} {h : mm_H}
theorem mg_get (C : mm_Ctx p s m args meth c D B M) {i ci k a : Nat} {fs : List Value} {v : Value} (hd : decode M.2.2.1 pc = .ok (.getfield i, 3)) (hf : mm_fld M.1 i = some (ci, k)) (hc : h.2.2 a = some (ci, fs)) (hv : fs[k]? = some v) (kk : mm_G p l e R s m args below meth c Q D B M (pc + 3) ls (v :: r) h cells slots) : mm_G p l e R s m args below meth c Q D B M pc ls (.ref a :: r) h cells slots := fun H locs lsA hP hS hl => by
  obtain ⟨h5, hkN, hlink, -⟩ := mm_fld_spec hf
  have hcell := mm_cellO h5 (hP.2.2 a _ hc).2.2
  have hP1 : va_P D vwCl [(mm_am B a, .inr (ci, fs.map (mm_sh B)))] H := fun j q hj => by
    have hz : j < 1 := (List.getElem?_eq_some_iff.mp hj).1
    rw [show j = 0 by omega] at hj
    cases hj
    exact ⟨_, mm_cl_at ci h5, hcell.2⟩
  exact va_get (tys := mm_tys D) (Ts := mm_Ws) C.1 C.2.1 C.2.2.2.2.1 (mm_lay_ok ci h5) C.2.2.2.1 C.2.2.2.2.2.1.1 hP1 0 rfl (mm_cl_at ci h5) k hkN (C.2.2.2.2.1 _ hlink) (fun _ h9 => h9) (v := mm_sh B v) (by rw [List.getElem?_map, hv]; rfl) hd (kk H locs lsA hP hS hl)
set_option maxHeartbeats 1000000 in
theorem mg_put (C : mm_Ctx p s m args meth c D B M) {i ci k a : Nat} {fs : List Value} {v : Value} (hd : decode M.2.2.1 pc = .ok (.putfield i, 3)) (hf : mm_fld M.1 i = some (ci, k)) (hc : h.2.2 a = some (ci, fs)) (hk : k < fs.length) (hn : narrow (mm_ty ci k) v = v) (hft : fits (mm_ty ci k) v = true) (hfin : (mm_F ci k).2.2.2 = false ∨ (M.2.1.name = "<init>" ∧ M.1 = ci)) (kk : mm_G p l e R s m args below meth c Q D B M (pc + 3) ls r (mm_up h a (ci, fs.set k v)) cells slots) : mm_G p l e R s m args below meth c Q D B M pc ls (v :: .ref a :: r) h cells slots := fun H locs lsA hP hS hl => by
  obtain ⟨h5, hkN, hlink, hcn⟩ := mm_fld_spec hf
  obtain ⟨ha0, hal, hce⟩ := hP.2.2 a _ hc
  obtain ⟨hlen, cell, q1, q2, q3, q4⟩ := mm_cellO h5 hce
  obtain ⟨hx, hb, hml, hown, hts, hWF, hnm, hB1, hB2⟩ := C
  have hK := hWF.1
  have hin := mm_lay_ok ci h5
  have hcl := mm_cl_at ci h5
  have hap := va_apart (own := mm_cn M.1) hts hin (mm_ty ci) (mm_ty_ok ci h5) (mm_nm_ok ci h5) hK hcl
  obtain ⟨hSl, hfc, kC, hkC, hkind⟩ := hK.1 ci _ hcl
  obtain ⟨cf, kf, fi, f, hi, hsl⟩ := hSl k hkN
  have hlay := hts _ (hin _ (u_in_lay hkN))
  have hst := (u_facts hfc hkC (u_lays hts hin hkN) hi).1
  have hdt := mm_ty_ok ci h5 k hkN
  have hn' : narrow (mm_ty ci k) (mm_sh B v) = mm_sh B v := mm_sh_nar hn
  have hf' : fits (mm_ty ci k) (mm_sh B v) = true := mm_sh_fit hft
  have haA : B.2 ≤ mm_am B a := by
    unfold mm_am
    rw [if_neg (by omega)]
    omega
  have fin : ∀ H' : Heap, H'[mm_am B a]? = some (cell.setSlot f.slot (mm_sh B v)) → H'.size = H.size → (∀ q, q ≠ mm_am B a → H'[q]? = H[q]?) → W p l e R s m args below meth c H' (locs ++ [⟨mm_am B a, f.slot⟩]) cells slots Q (F0 m (pc + 3) lsA (r.map (mm_sh B))) := fun H' e1 e2 e3 => by
    rw [hsl] at e1 ⊢
    refine kk H' _ lsA (hP.up hc ?_ e2 e3) (hS.put e2 e3 haA) hl
    unfold mm_cell
    rw [if_pos (show (ci, fs.set k v).1 < 5 from h5)]
    refine ⟨by show (fs.set k v).length = _; rw [List.length_set]; exact hlen, ?_⟩
    refine t_OB.to (V := updV (vp_V (fs.map (mm_sh B))) k (mm_sh B v)) ⟨_, e1, q2, q3, t_set q4 hap hkN (mm_sh B v)⟩ (fun j _ => ?_)
    rw [vp_updV_set (by rw [List.length_map]; exact hk), List.map_set]
  unfold u_lay at hlay
  by_cases hfl : (mm_F ci k).2.2.2 = false
  · rw [if_neg (by rw [hfl]; decide)] at hlay
    have h6 := u_store hfc hkC hkind hlay hi hdt hn' hf'
    exact W.putK hx hb (f := f) ⟨hown, hts _ hlink, ⟨_, _, _, hi⟩, hst⟩ (by rw [q2]; exact h6) q1 q3 (by rw [hsl]; exact k2_hasslot (q4 k hkN)) rfl rfl hd fin
  · have hft2 : (mm_F ci k).2.2.2 = true := by revert hfl; cases (mm_F ci k).2.2.2 <;> simp
    obtain ⟨hnm2, hMc⟩ := hfin.resolve_left hfl
    rw [if_pos hft2] at hlay
    have hcf : m.cls = cf := by
      obtain ⟨_, _, c', _, _, _, -, -, hf', -, -, -, hown2, -⟩ := Cond.laysFinal_spec hlay
      have e1 : c' = cf := by have := hi.symm.trans hf'; simp at this; exact this.1.symm
      rw [hcn, ← hMc] at hown2
      rw [← e1]; exact Option.some.inj (hown.symm.trans hown2)
    have h6 := u_fits hfc hkC hkind (Or.inr hlay) hi hdt hn' hf'
    exact W.putFinK hx hb hown (hts _ hlink) hi hst hcf (hnm hnm2) (by rw [q2]; exact h6) q1 q3 (by rw [hsl]; exact k2_hasslot (q4 k hkN)) rfl rfl hd fin
theorem mg_iald (C : mm_Ctx p s m args meth c D B M) {a : Nat} {vs : List Value} {j : Int32} {v : Value} (hd : decode M.2.2.1 pc = .ok (.iaload, 1)) (hc : h.2.2 a = some (5, vs)) (hv : mm_ix vs j = some v) (kk : mm_G p l e R s m args below meth c Q D B M (pc + 1) ls (v :: r) h cells slots) : mm_G p l e R s m args below meth c Q D B M pc ls (.int j :: .ref a :: r) h cells slots := fun H locs lsA hP hS hl => by
  obtain ⟨h1, h2, h3⟩ := mm_ix_spec hv
  have hcell := mm_cellA (by decide) (hP.2.2 a _ hc).2.2
  exact W.iald (v := mm_sh B v) C.1 C.2.1 hcell ((C.2.2.2.2.2.1.1.2 0 _ rfl).1 _ _) (fun q => by cases q) (by rw [arrV_size]; exact fun q => q.elim h1 (fun q => absurd h2 (Nat.not_lt.mpr q))) (by rw [arrV_read _ _ h2, mm_vV h3]) rfl rfl hd (kk H locs lsA hP hS hl)
theorem mg_lald (C : mm_Ctx p s m args meth c D B M) {a : Nat} {vs : List Value} {j : Int32} {v : Value} (hd : decode M.2.2.1 pc = .ok (.laload, 1)) (hc : h.2.2 a = some (6, vs)) (hv : mm_ix vs j = some v) (kk : mm_G p l e R s m args below meth c Q D B M (pc + 1) ls (v :: r) h cells slots) : mm_G p l e R s m args below meth c Q D B M pc ls (.int j :: .ref a :: r) h cells slots := fun H locs lsA hP hS hl => by
  obtain ⟨h1, h2, h3⟩ := mm_ix_spec hv
  have hcell := mm_cellA (by decide) (hP.2.2 a _ hc).2.2
  exact W.lald (v := mm_sh B v) C.1 C.2.1 hcell ((C.2.2.2.2.2.1.1.2 1 _ rfl).1 _ _) (fun q => by cases q) (by rw [arrV_size]; exact fun q => q.elim h1 (fun q => absurd h2 (Nat.not_lt.mpr q))) (by rw [arrV_read _ _ h2, mm_vV h3]) rfl rfl hd (kk H locs lsA hP hS hl)
theorem mg_aald (C : mm_Ctx p s m args meth c D B M) {a ci : Nat} {vs : List Value} {j : Int32} {v : Value} (hd : decode M.2.2.1 pc = .ok (.aaload, 1)) (hci : ci = 7 ∨ ci = 8 ∨ ci = 9) (hc : h.2.2 a = some (ci, vs)) (hv : mm_ix vs j = some v) (kk : mm_G p l e R s m args below meth c Q D B M (pc + 1) ls (v :: r) h cells slots) : mm_G p l e R s m args below meth c Q D B M pc ls (.int j :: .ref a :: r) h cells slots := fun H locs lsA hP hS hl => by
  obtain ⟨h1, h2, h3⟩ := mm_ix_spec hv
  have hcell := mm_cellA (by omega) (hP.2.2 a _ hc).2.2
  have key : ∀ ty : FieldType, ty.isReference = true → ArrOfT s (D.1 ci) ty → W p l e R s m args below meth c H locs cells slots Q (F0 m pc lsA ((Value.int j :: .ref a :: r).map (mm_sh B))) := fun ty ht hA =>
    W.aald (v := mm_sh B v) (ty := ty) C.1 C.2.1 hcell (hA _ _) ht (fun q => by cases q) (by rw [arrV_size]; exact fun q => q.elim h1 (fun q => absurd h2 (Nat.not_lt.mpr q))) (by rw [arrV_read _ _ h2, mm_vV h3]) rfl rfl hd (kk H locs lsA hP hS hl)
  have hK := C.2.2.2.2.2.1.1
  rcases hci with rfl | rfl | rfl
  · exact key _ rfl (hK.2 2 _ rfl).1
  · exact key _ rfl (hK.2 3 _ rfl).1
  · exact key _ rfl (hK.2 4 _ rfl).1
theorem mg_iast (C : mm_Ctx p s m args meth c D B M) {a : Nat} {vs : List Value} {j x : Int32} (hd : decode M.2.2.1 pc = .ok (.iastore, 1)) (hc : h.2.2 a = some (5, vs)) (h1 : ¬ j < 0) (h2 : j.toNatClampNeg < vs.length) (kk : mm_G p l e R s m args below meth c Q D B M (pc + 1) ls r (mm_up h a (5, vs.set j.toNatClampNeg (.int x))) cells slots) : mm_G p l e R s m args below meth c Q D B M pc ls (.int x :: .int j :: .ref a :: r) h cells slots := fun H locs lsA hP hS hl => by
  obtain ⟨g1, g2, g3⟩ := hP.2.2 a _ hc
  have hcell := mm_cellA (by decide) g3
  refine W.iast C.1 C.2.1 hcell ((C.2.2.2.2.2.1.1.2 0 _ rfl).1 _ _) (fun q => by cases q) (by rw [arrV_size]; exact fun q => q.elim h1 (fun q => absurd h2 (Nat.not_lt.mpr q))) rfl rfl hd fun H' e1 e2 e3 => ?_
  refine kk H' _ lsA (hP.up hc (mm_ofA (by decide) ?_) e2 e3) (hS.put e2 e3 ?_) hl
  · rw [e1]
    exact congrArg some (mm_setA h2 (.int x))
  · show B.2 ≤ mm_am B a
    unfold mm_am
    rw [if_neg (by omega)]
    omega
theorem mg_last (C : mm_Ctx p s m args meth c D B M) {a : Nat} {vs : List Value} {j : Int32} {x : Int64} (hd : decode M.2.2.1 pc = .ok (.lastore, 1)) (hc : h.2.2 a = some (6, vs)) (h1 : ¬ j < 0) (h2 : j.toNatClampNeg < vs.length) (kk : mm_G p l e R s m args below meth c Q D B M (pc + 1) ls r (mm_up h a (6, vs.set j.toNatClampNeg (.long x))) cells slots) : mm_G p l e R s m args below meth c Q D B M pc ls (.long x :: .int j :: .ref a :: r) h cells slots := fun H locs lsA hP hS hl => by
  obtain ⟨g1, g2, g3⟩ := hP.2.2 a _ hc
  have hcell := mm_cellA (by decide) g3
  refine W.last C.1 C.2.1 hcell ((C.2.2.2.2.2.1.1.2 1 _ rfl).1 _ _) (fun q => by cases q) (by rw [arrV_size]; exact fun q => q.elim h1 (fun q => absurd h2 (Nat.not_lt.mpr q))) rfl rfl hd fun H' e1 e2 e3 => ?_
  refine kk H' _ lsA (hP.up hc (mm_ofA (by decide) ?_) e2 e3) (hS.put e2 e3 ?_) hl
  · rw [e1]
    exact congrArg some (mm_setA h2 (.long x))
  · show B.2 ≤ mm_am B a
    unfold mm_am
    rw [if_neg (by omega)]
    omega
theorem mg_aastN (C : mm_Ctx p s m args meth c D B M) {a ci : Nat} {vs : List Value} {j : Int32} (hd : decode M.2.2.1 pc = .ok (.aastore, 1)) (hci : ci = 7 ∨ ci = 8) (hc : h.2.2 a = some (ci, vs)) (h1 : ¬ j < 0) (h2 : j.toNatClampNeg < vs.length) (kk : mm_G p l e R s m args below meth c Q D B M (pc + 1) ls r (mm_up h a (ci, vs.set j.toNatClampNeg .null)) cells slots) : mm_G p l e R s m args below meth c Q D B M pc ls (.null :: .int j :: .ref a :: r) h cells slots := fun H locs lsA hP hS hl => by
  obtain ⟨g1, g2, g3⟩ := hP.2.2 a _ hc
  have hcell := mm_cellA (by omega) g3
  have key : ∀ C9 : String, ArrOfT s (D.1 ci) (.object C9) → W p l e R s m args below meth c H locs cells slots Q (F0 m pc lsA ((Value.null :: .int j :: .ref a :: r).map (mm_sh B))) := fun C9 hA => by
    refine va_WaastN (C := C9) C.1 C.2.1 hcell (hA _ _) (fun q => by cases q) (by rw [arrV_size]; exact fun q => q.elim h1 (fun q => absurd h2 (Nat.not_lt.mpr q))) rfl rfl hd fun H' e1 e2 e3 => ?_
    refine kk H' _ lsA (hP.up hc (mm_ofA (by omega) ?_) e2 e3) (hS.put e2 e3 ?_) hl
    · rw [e1]
      exact congrArg some (mm_setA h2 .null)
    · show B.2 ≤ mm_am B a
      unfold mm_am
      rw [if_neg (by omega)]
      omega
  have hK := C.2.2.2.2.2.1.1
  rcases hci with rfl | rfl
  · exact key _ (hK.2 2 _ rfl).1
  · exact key _ (hK.2 3 _ rfl).1
theorem mg_aast (C : mm_Ctx p s m args meth c D B M) {a b ci : Nat} {vs us : List Value} {j : Int32} (hd : decode M.2.2.1 pc = .ok (.aastore, 1)) (hci : ci = 0 ∨ ci = 1) (hc : h.2.2 a = some (7 + ci, vs)) (hb9 : h.2.2 b = some (ci, us)) (h1 : ¬ j < 0) (h2 : j.toNatClampNeg < vs.length) (kk : mm_G p l e R s m args below meth c Q D B M (pc + 1) ls r (mm_up h a (7 + ci, vs.set j.toNatClampNeg (.ref b))) cells slots) : mm_G p l e R s m args below meth c Q D B M pc ls (.ref b :: .int j :: .ref a :: r) h cells slots := fun H locs lsA hP hS hl => by
  obtain ⟨g1, g2, g3⟩ := hP.2.2 a _ hc
  have hcell := mm_cellA (by omega) g3
  have h5 : ci < 5 := by omega
  obtain ⟨-, cellV, f1, f2, f3, -⟩ := mm_cellO h5 (hP.2.2 b _ hb9).2.2
  have hK := C.2.2.2.2.2.1.1
  have hcls := (hK.1 ci _ (mm_cl_at ci h5)).2
  have hRA : va_RA s (D.1 (7 + ci)) (.object (mm_cn ci)) := by
    rcases hci with rfl | rfl
    · exact (hK.2 2 _ rfl).2
    · exact (hK.2 3 _ rfl).2
  obtain ⟨kA, comp, k1, k2, k3, -⟩ := hRA
  have hcomp : comp = D.1 ci := Option.some.inj (k3.symm.trans hcls.1)
  subst hcomp
  obtain ⟨kC, hkC, -⟩ := hcls.2
  refine W.aast C.1 C.2.1 hcell (fun q h => by cases h) (fun h => by cases h) k1 k2 rfl hkC ⟨h1, by rw [arrV_size]; exact h2⟩ f1 (fun q h => by rw [f3] at h; cases h) (by rw [f2]; exact hkC) (by rw [f2]; exact va_assign hcls) rfl rfl hd fun H' e1 e2 e3 => ?_
  refine kk H' _ lsA (hP.up hc (mm_ofA (by omega) ?_) e2 e3) (hS.put e2 e3 ?_) hl
  · rw [e1]
    exact congrArg some (mm_setA h2 (.ref b))
  · show B.2 ≤ mm_am B a
    unfold mm_am
    rw [if_neg (by omega)]
    omega
theorem mg_sld (C : mm_Ctx p s m args meth c D B M) {xs : List Int32} (hX : va_X B.1 xs.length (fun j => xs.getD j 0) s s.heap) {j x : Int32} (hd : decode M.2.2.1 pc = .ok (.iaload, 1)) (h1 : ¬ j < 0) (hv : xs[j.toNatClampNeg]? = some x) (kk : mm_G p l e R s m args below meth c Q D B M (pc + 1) ls (.int x :: r) h cells slots) : mm_G p l e R s m args below meth c Q D B M pc ls (.int j :: .ref 0 :: r) h cells slots := fun H locs lsA hP hS hl => by
  have hlt := (List.getElem?_eq_some_iff.mp hv).1
  have hx : xs.getD j.toNatClampNeg 0 = x := by simp [List.getD, hv]
  have k := kk H locs lsA hP hS hl
  rw [← hx] at k
  exact va_sld (A := fun q => B.2 ≤ q) C.1 C.2.1 hX (by have := C.2.2.2.2.2.2.2; omega) (Nat.not_le.mpr C.2.2.2.2.2.2.2.1) hS (fun q => q.elim h1 (fun q => absurd hlt (Nat.not_lt.mpr q))) hd k
theorem mg_slen (C : mm_Ctx p s m args meth c D B M) {xs : List Int32} (hX : va_X B.1 xs.length (fun j => xs.getD j 0) s s.heap) (hd : decode M.2.2.1 pc = .ok (.arraylength, 1)) (kk : mm_G p l e R s m args below meth c Q D B M (pc + 1) ls (.int (Int32.ofNat xs.length) :: r) h cells slots) : mm_G p l e R s m args below meth c Q D B M pc ls (.ref 0 :: r) h cells slots := fun H locs lsA hP hS hl =>
  va_slen (A := fun q => B.2 ≤ q) (b := B.1) C.1 C.2.1 hX (by have := C.2.2.2.2.2.2.2; omega) (Nat.not_le.mpr C.2.2.2.2.2.2.2.1) hS hd (kk H locs lsA hP hS hl)
theorem mg_new (C : mm_Ctx p s m args meth c D B M) {i k : Nat} (hd : decode M.2.2.1 pc = .ok (.new i, 3)) (hk : mm_cls M.1 i = some k) (h5 : k < 5) (hcl : cells + 1 ≤ R.cells) (hsl : slots + (mm_df k).length ≤ R.slots) (kk : mm_G p l e R s m args below meth c Q D B M (pc + 3) ls (.ref h.1 :: st) (mm_new h (k, mm_df k)) (cells + 1) (slots + (mm_df k).length)) : mm_G p l e R s m args below meth c Q D B M pc ls st h cells slots := fun H locs lsA hP hS hl => by
  have hN : (mm_df k).length = mm_N k := by simp [mm_df]
  rw [hN] at hsl kk
  obtain ⟨w1, w2, w3⟩ := (mm_cls_spec hk).1 h5
  obtain ⟨hx, hb, hml, hown, hts, hWF, hnm, hB1, hB2⟩ := C
  have hKn := hWF.1.1 k _ (mm_cl_at k h5)
  have ham := hP.am
  refine W.newcK hx hb hown (hts _ w1) (hts _ w2) (hts _ w3) rfl hd hcl hsl hKn.2.1 ham.symm fun H1 kC hkC e1 z1 o1 => ?_
  have kk2 := kk H1 locs lsA (hP.new ?_ (by rw [z1, ham]) (fun q hq => o1 q (by rw [ham]; exact hq))) ⟨Nat.le_trans hS.1 (by rw [z1, ham]; omega), fun q h1 h2 => by rw [o1 q (by rw [ham]; exact Nat.lt_of_lt_of_le h1 hS.1)]; exact hS.2.1 q h1 h2, hS.2.2⟩ hl
  · exact kk2
  · unfold mm_cell
    rw [if_pos (show (k, mm_df k).1 < 5 from h5)]
    refine ⟨hN, ?_⟩
    refine (u_born (mm_ty k) hts (mm_lay_ok k h5) hKn hkC e1 (mm_ty_ok k h5)).to (fun j hj => ?_)
    have : (mm_df k)[j]? = some (defaultValue (mm_ty k j)) := by simp [mm_df, hj]
    rw [mm_vV this, mm_sh_df]
theorem mg_newI (C : mm_Ctx p s m args meth c D B M) {n : Int32} (hd : decode M.2.2.1 pc = .ok (.newarray .int, 2)) (h1 : ¬ n < 0) (h2 : ¬ 10000 < n.toNatClampNeg) (hcl : cells + 1 ≤ R.cells) (hsl : slots + n.toNatClampNeg ≤ R.slots) (kk : mm_G p l e R s m args below meth c Q D B M (pc + 2) ls (.ref h.1 :: r) (mm_new h (5, List.replicate n.toNatClampNeg (.int 0))) (cells + 1) (slots + n.toNatClampNeg)) : mm_G p l e R s m args below meth c Q D B M pc ls (.int n :: r) h cells slots := fun H locs lsA hP hS hl => by
  obtain ⟨hx, hb, hml, hown, hts, hWF, hnm, hB1, hB2⟩ := C
  have ham := hP.am
  refine va_newaK (atype := .int) hx hb (hts _ mm_obj_ok.2.2.1) rfl hd rfl h1 rfl (by show n.toNatClampNeg * 4 ≤ _; omega) hcl hsl ham.symm fun H1 cA e1 z1 o1 hAr hNm => ?_
  have hcA : cA = D.1 5 := Option.some.inj (hNm.symm.trans (hWF.1.2 0 _ rfl).2)
  refine kk H1 locs lsA (hP.new (mm_ofA (by decide) ?_) (by rw [z1, ham]) (fun q hq => o1 q (by rw [ham]; exact hq))) ⟨Nat.le_trans hS.1 (by rw [z1, ham]; omega), fun q h1 h2 => by rw [o1 q (by rw [ham]; exact Nat.lt_of_lt_of_le h1 hS.1)]; exact hS.2.1 q h1 h2, hS.2.2⟩ hl
  rw [e1, hcA, List.length_replicate]
  refine congrArg some (mm_arrV (fun j hj => ?_))
  rw [mm_vV (v := .int 0) (by simp [hj])]
  rfl
theorem mg_newJ (C : mm_Ctx p s m args meth c D B M) {n : Int32} (hd : decode M.2.2.1 pc = .ok (.newarray .long, 2)) (h1 : ¬ n < 0) (h2 : ¬ 10000 < n.toNatClampNeg) (hcl : cells + 1 ≤ R.cells) (hsl : slots + n.toNatClampNeg ≤ R.slots) (kk : mm_G p l e R s m args below meth c Q D B M (pc + 2) ls (.ref h.1 :: r) (mm_new h (6, List.replicate n.toNatClampNeg (.long 0))) (cells + 1) (slots + n.toNatClampNeg)) : mm_G p l e R s m args below meth c Q D B M pc ls (.int n :: r) h cells slots := fun H locs lsA hP hS hl => by
  obtain ⟨hx, hb, hml, hown, hts, hWF, hnm, hB1, hB2⟩ := C
  have ham := hP.am
  refine va_newaK (atype := .long) hx hb (hts _ mm_obj_ok.2.2.2) rfl hd rfl h1 rfl (by show n.toNatClampNeg * 8 ≤ _; omega) hcl hsl ham.symm fun H1 cA e1 z1 o1 hAr hNm => ?_
  have hcA : cA = D.1 6 := Option.some.inj (hNm.symm.trans (hWF.1.2 1 _ rfl).2)
  refine kk H1 locs lsA (hP.new (mm_ofA (by decide) ?_) (by rw [z1, ham]) (fun q hq => o1 q (by rw [ham]; exact hq))) ⟨Nat.le_trans hS.1 (by rw [z1, ham]; omega), fun q h1 h2 => by rw [o1 q (by rw [ham]; exact Nat.lt_of_lt_of_le h1 hS.1)]; exact hS.2.1 q h1 h2, hS.2.2⟩ hl
  rw [e1, hcA, List.length_replicate]
  refine congrArg some (mm_arrV (fun j hj => ?_))
  rw [mm_vV (v := .long 0) (by simp [hj])]
  rfl
theorem mg_newA (C : mm_Ctx p s m args meth c D B M) {n : Int32} {i k : Nat} (hd : decode M.2.2.1 pc = .ok (.anewarray i, 3)) (hk : mm_cls M.1 i = some k) (h5 : k = 0 ∨ k = 1) (h1 : ¬ n < 0) (h2 : ¬ 10000 < n.toNatClampNeg) (hcl : cells + 1 ≤ R.cells) (hsl : slots + n.toNatClampNeg ≤ R.slots) (kk : mm_G p l e R s m args below meth c Q D B M (pc + 3) ls (.ref h.1 :: r) (mm_new h (7 + k, List.replicate n.toNatClampNeg .null)) (cells + 1) (slots + n.toNatClampNeg)) : mm_G p l e R s m args below meth c Q D B M pc ls (.int n :: r) h cells slots := fun H locs lsA hP hS hl => by
  obtain ⟨hx, hb, hml, hown, hts, hWF, hnm, hB1, hB2⟩ := C
  have ham := hP.am
  obtain ⟨w1, -, -⟩ := (mm_cls_spec hk).1 (by omega)
  have hover : (Cond.arrayOver (.object (mm_cn k))).before args s = true := by
    rcases h5 with rfl | rfl
    · exact va_AO.use hWF.2.1
    · exact va_AO.use hWF.2.2.1
  have hRA : va_RA s (D.1 (7 + k)) (.object (mm_cn k)) := by
    rcases h5 with rfl | rfl
    · exact (hWF.1.2 2 _ rfl).2
    · exact (hWF.1.2 3 _ rfl).2
  obtain ⟨kA2, comp2, -, -, -, k4⟩ := hRA
  refine W.anew hx hb hown (hts _ w1) hover rfl hd rfl h1 (by omega) hcl hsl fun cA kA comp f1 f2 f3 f4 => ?_
  have hcA : cA = D.1 (7 + k) := Option.some.inj (f1.symm.trans k4)
  subst hcA
  generalize hH1 : H.push ({ cls := D.1 (7 + k), slots := Array.replicate n.toNatClampNeg .null, vm := .none } : Cell) = H1
  have z1 : H1.size = H.size + 1 := by rw [← hH1, Array.size_push]
  have e1 : H1[H.size]? = some (arrV (D.1 (7 + k)) n.toNatClampNeg (fun _ => .null)) := by rw [← hH1, Array.getElem?_push_size, ← arrV_new]
  have o1 : ∀ q : Nat, q < H.size → H1[q]? = H[q]? := fun q hq => by rw [← hH1, Array.getElem?_push, if_neg (Nat.ne_of_lt hq)]
  have kk2 := kk H1 locs lsA (hP.new (mm_ofA (by omega) ?_) z1 o1) ⟨Nat.le_trans hS.1 (by omega), fun q h1 h2 => by rw [o1 q (Nat.lt_of_lt_of_le h1 hS.1)]; exact hS.2.1 q h1 h2, hS.2.2⟩ hl
  · have e : mm_sh B (.ref h.1) = .ref H.size := congrArg Value.ref ham
    have e2 : ((Value.ref h.1 :: r).map (mm_sh B)) = .ref H.size :: r.map (mm_sh B) := by rw [List.map_cons, e]
    rw [e2] at kk2
    exact kk2
  · rw [ham, e1, List.length_replicate]
    refine congrArg some (mm_arrV (fun j hj => ?_))
    rw [mm_vV (v := .null) (by simp [hj])]
    rfl
theorem mg_maxI (C : mm_Ctx p s m args meth c D B M) {i : Nat} {x y : Int32} (hd : decode M.2.2.1 pc = .ok (.invokestatic i, 3)) (hm : mm_max M.1 i = some 0) (hF1 : 1 ≤ R.frames) (hF2 : 40 ≤ R.locals) (hcs : (r.map fun v => v.category).sum ≤ 8) (hcl : cells ≤ R.cells) (hsl : slots ≤ R.slots) (kk : mm_G p l e R s m args below meth c Q D B M (pc + 3) ls (.int (if x < y then y else x) :: r) h cells slots) : mm_G p l e R s m args below meth c Q D B M pc ls (.int y :: .int x :: r) h cells slots := fun H locs lsA hP hS hl => by
  obtain ⟨hx, hb, hml, hown, hts, hWF, hnm, hB1, hB2⟩ := C
  have hsum : ((r.map (mm_sh B)).map fun v => v.category).sum ≤ 8 := by
    rw [List.map_map]
    have : ((fun v : Value => v.category) ∘ mm_sh B) = fun v => v.category := funext fun v => mm_sh_cat B v
    rw [this]
    exact hcs
  exact va_mmax hx hb (by rw [hml]; exact hl.1.symm) hown (hts _ ((mm_max_spec hm).1 rfl)) (hts _ mm_max_ok.2.1) (hts _ mm_max_ok.1) (hts _ mm_max_code.1) hF1 (by omega) hcl hsl hd (kk H locs lsA hP hS hl)
theorem mg_maxJ (C : mm_Ctx p s m args meth c D B M) {i : Nat} {x y : Int64} (hd : decode M.2.2.1 pc = .ok (.invokestatic i, 3)) (hm : mm_max M.1 i = some 1) (hF1 : 1 ≤ R.frames) (hF2 : 40 ≤ R.locals) (hcs : (r.map fun v => v.category).sum ≤ 8) (hcl : cells ≤ R.cells) (hsl : slots ≤ R.slots) (kk : mm_G p l e R s m args below meth c Q D B M (pc + 3) ls (.long (if y < x then x else y) :: r) h cells slots) : mm_G p l e R s m args below meth c Q D B M pc ls (.long y :: .long x :: r) h cells slots := fun H locs lsA hP hS hl => by
  obtain ⟨hx, hb, hml, hown, hts, hWF, hnm, hB1, hB2⟩ := C
  have hsum : ((r.map (mm_sh B)).map fun v => v.category).sum ≤ 8 := by
    rw [List.map_map]
    have : ((fun v : Value => v.category) ∘ mm_sh B) = fun v => v.category := funext fun v => mm_sh_cat B v
    rw [this]
    exact hcs
  exact va_mmax_long hx hb (by rw [hml]; exact hl.1.symm) hown (hts _ ((mm_max_spec hm).2 rfl)) (hts _ mm_max_ok.2.2) (hts _ mm_max_ok.1) (hts _ mm_max_code.2) hF1 (by omega) hcl hsl hd (kk H locs lsA hP hS hl)
theorem mg_obj (C : mm_Ctx p s m args meth c D B M) {i a : Nat} (hd : decode M.2.2.1 pc = .ok (.invokespecial i, 3)) (hm : (M.1, i) ∈ mm_objL) (hF1 : 1 ≤ R.frames) (hF2 : 40 ≤ R.locals) (hcs : (r.map fun v => v.category).sum ≤ 8) (kk : mm_G p l e R s m args below meth c Q D B M (pc + 3) ls r h cells slots) : mm_G p l e R s m args below meth c Q D B M pc ls (.ref a :: r) h cells slots := fun H locs lsA hP hS hl => by
  obtain ⟨hx, hb, hml, hown, hts, hWF, hnm, hB1, hB2⟩ := C
  have hsum : ((r.map (mm_sh B)).map fun v => v.category).sum ≤ 8 := by
    rw [List.map_map]
    have : ((fun v : Value => v.category) ∘ mm_sh B) = fun v => v.category := funext fun v => mm_sh_cat B v
    rw [this]
    exact hcs
  exact W.objInit hx hb hown (hts _ (mm_objL_ok _ hm)) (hts _ mm_obj_ok.1) (hts _ mm_obj_ok.2.1) rfl (by rw [hml]; exact hl.1) rfl hd hF1 (by show 2 * 0 + _ + 12 ≤ _; omega) (kk H locs lsA hP hS hl)
end MG
end
section
/-! one step of the mini-machine that is no call and no return, as one step of the machine -/
theorem mm_at_dec {M : mm_T} {pc : Nat} {ins : Instr} (h : mm_at M pc = some ins) : ∃ len, decode M.2.2.1 pc = .ok (ins, len) ∧ (mm_ln ins = 0 ∨ mm_ln ins = len) := by
  unfold mm_at at h
  cases hd : decode M.2.2.1 pc with
  | error e => rw [hd] at h; cases h
  | ok q =>
    obtain ⟨i2, len⟩ := q
    rw [hd] at h
    by_cases hc : mm_ln i2 = 0 ∨ mm_ln i2 = len
    · have h' : (if mm_ln i2 = 0 ∨ mm_ln i2 = len then some i2 else none) = some ins := h
      rw [if_pos hc] at h'
      cases h'
      exact ⟨len, rfl, hc⟩
    · have h' : (if mm_ln i2 = 0 ∨ mm_ln i2 = len then some i2 else none) = some ins := h
      rw [if_neg hc] at h'
      cases h'
theorem mm_ld0 {pc i : Nat} {ls : mm_L} {st : List Value} {h : mm_H} {q : Nat × mm_L × List Value × mm_H} (hx : mm_ld 0 pc ls st h i = some (.inl q)) : ∃ x, mm_lk ls i = some (.int x) ∧ q = (pc, ls, .int x :: st, h) := by
  unfold mm_ld at hx
  cases hl : mm_lk ls i with
  | none => simp [hl] at hx
  | some v => cases v <;> simp [hl] at hx; exact ⟨_, rfl, hx.symm⟩
theorem mm_ld1 {pc i : Nat} {ls : mm_L} {st : List Value} {h : mm_H} {q : Nat × mm_L × List Value × mm_H} (hx : mm_ld 1 pc ls st h i = some (.inl q)) : ∃ x, mm_lk ls i = some (.long x) ∧ q = (pc, ls, .long x :: st, h) := by
  unfold mm_ld at hx
  cases hl : mm_lk ls i with
  | none => simp [hl] at hx
  | some v => cases v <;> simp [hl] at hx; exact ⟨_, rfl, hx.symm⟩
theorem mm_ld2 {pc i : Nat} {ls : mm_L} {st : List Value} {h : mm_H} {q : Nat × mm_L × List Value × mm_H} (hx : mm_ld 2 pc ls st h i = some (.inl q)) : (∃ x, mm_lk ls i = some (.ref x) ∧ q = (pc, ls, .ref x :: st, h)) ∨ (mm_lk ls i = some .null ∧ q = (pc, ls, .null :: st, h)) := by
  unfold mm_ld at hx
  cases hl : mm_lk ls i with
  | none => simp [hl] at hx
  | some v =>
    cases v <;> simp [hl] at hx
    · exact Or.inr ⟨rfl, hx.symm⟩
    · exact Or.inl ⟨_, rfl, hx.symm⟩
theorem mm_sto0 {pc nL i : Nat} {ls : mm_L} {st : List Value} {h : mm_H} {q : Nat × mm_L × List Value × mm_H} (hx : mm_sto 0 nL pc ls st h i = some (.inl q)) : ∃ x r, st = .int x :: r ∧ i < nL ∧ q = (pc, mm_st1 ls i (.int x), r, h) := by
  unfold mm_sto at hx
  cases st with
  | nil => simp at hx
  | cons v r => cases v <;> simp at hx; exact ⟨_, _, rfl, hx.1, hx.2.symm⟩
theorem mm_sto1 {pc nL i : Nat} {ls : mm_L} {st : List Value} {h : mm_H} {q : Nat × mm_L × List Value × mm_H} (hx : mm_sto 1 nL pc ls st h i = some (.inl q)) : ∃ x r, st = .long x :: r ∧ i + 1 < nL ∧ q = (pc, mm_st2 ls i (.long x), r, h) := by
  unfold mm_sto at hx
  cases st with
  | nil => simp at hx
  | cons v r => cases v <;> simp at hx; exact ⟨_, _, rfl, hx.1, hx.2.symm⟩
theorem mm_sto2 {pc nL i : Nat} {ls : mm_L} {st : List Value} {h : mm_H} {q : Nat × mm_L × List Value × mm_H} (hx : mm_sto 2 nL pc ls st h i = some (.inl q)) : (∃ x r, st = .ref x :: r ∧ i < nL ∧ q = (pc, mm_st1 ls i (.ref x), r, h)) ∨ (∃ r, st = .null :: r ∧ i < nL ∧ q = (pc, mm_st1 ls i .null, r, h)) := by
  unfold mm_sto at hx
  cases st with
  | nil => simp at hx
  | cons v r =>
    cases v <;> simp at hx
    · exact Or.inr ⟨_, rfl, hx.1, hx.2.symm⟩
    · exact Or.inl ⟨_, _, rfl, hx.1, hx.2.symm⟩
theorem mm_go_spec {pc : Nat} {off : Int} {ls : mm_L} {st : List Value} {h : mm_H} {q : Nat × mm_L × List Value × mm_H} (hx : mm_go pc off ls st h = some (.inl q)) : 0 ≤ (pc : Int) + off ∧ q = (((pc : Int) + off).toNat, ls, st, h) := by
  unfold mm_go at hx
  by_cases h0 : 0 ≤ (pc : Int) + off
  · rw [if_pos h0] at hx
    cases hx
    exact ⟨h0, rfl⟩
  · rw [if_neg h0] at hx
    cases hx
section MG
variable {p : Program} {l : Launch} {e : Env} {R : Room} {s : State} {m : MethodId} {args : Array Value} {below : List Frame} {meth : Method} {c : Code} {Q : State → Prop} {D : va_G} {B : Nat × Nat} {M : mm_T}
variable {pc cells slots : Nat} {ls : mm_L} {st r : List Value} {h : mm_H}
/-- new T[n][m] of ints -/
theorem mg_mna (C : mm_Ctx p s m args meth c D B M) {n k : Int32} {i : Nat} (hd : decode M.2.2.1 pc = .ok (.multianewarray i 2, 4)) (hk : mm_cls M.1 i = some 9) (h1 : ¬ n < 0) (h2 : ¬ k < 0) (h3 : ¬ 10000 < n.toNatClampNeg) (h4 : ¬ 10000 < k.toNatClampNeg) (hcl : cells + (1 + n.toNatClampNeg) ≤ R.cells) (hsl : slots + (n.toNatClampNeg + n.toNatClampNeg * k.toNatClampNeg) ≤ R.slots) (kk : mm_G p l e R s m args below meth c Q D B M (pc + 4) ls (.ref h.1 :: r) (mm_grid h n.toNatClampNeg k.toNatClampNeg) (cells + (1 + n.toNatClampNeg)) (slots + (n.toNatClampNeg + n.toNatClampNeg * k.toNatClampNeg))) : mm_G p l e R s m args below meth c Q D B M pc ls (.int k :: .int n :: r) h cells slots := sorry
variable {F : Nat} {sc : Option (List Int32)} {ins : Instr} {q : Nat × mm_L × List Value × mm_H}
set_option maxHeartbeats 4000000 in
theorem mm_sound (C : mm_Ctx p s m args meth c D B M) (hsc : ∀ xs, sc = some xs → va_X B.1 xs.length (fun j => xs.getD j 0) s s.heap) (hF : F ≤ R.frames ∧ 40 * F ≤ R.locals) (hat : mm_at M pc = some ins) (hx : mm_x sc F M ins pc ls st h = some (.inl q))
    (hr : cells + (q.2.2.2.1 - h.1) ≤ R.cells ∧ slots + (q.2.2.2.2.1 - h.2.1) ≤ R.slots) (k : ∀ c' s', c' = cells + (q.2.2.2.1 - h.1) → s' = slots + (q.2.2.2.2.1 - h.2.1) → mm_G p l e R s m args below meth c Q D B M q.1 q.2.1 q.2.2.1 q.2.2.2 c' s') : mm_G p l e R s m args below meth c Q D B M pc ls st h cells slots := by
  obtain ⟨len, hd, hlen⟩ := mm_at_dec hat
  have same : ∀ {a b : Nat}, a = a + (b - b) := by intros; omega
  cases ins with
  | iconst n =>
    obtain rfl : 1 = len := hlen.resolve_left (by simp [mm_ln])
    cases hx
    exact mg_iconst C hd (k _ _ same same)
  | bipush n =>
    obtain rfl : 2 = len := hlen.resolve_left (by simp [mm_ln])
    cases hx
    exact mg_bipush C hd (k _ _ same same)
  | sipush n =>
    obtain rfl : 3 = len := hlen.resolve_left (by simp [mm_ln])
    cases hx
    exact mg_sipush C hd (k _ _ same same)
  | lconst n =>
    obtain rfl : 1 = len := hlen.resolve_left (by simp [mm_ln])
    cases hx
    exact mg_lconst C hd (k _ _ same same)
  | aconst_null =>
    obtain rfl : 1 = len := hlen.resolve_left (by simp [mm_ln])
    cases hx
    exact mg_null C hd (k _ _ same same)
  | ldc2_w i =>
    obtain rfl : 3 = len := hlen.resolve_left (by simp [mm_ln])
    simp only [mm_x] at hx
    cases hl : mm_ldc M.1 i with
    | none => rw [hl] at hx; cases hx
    | some x =>
      rw [hl] at hx
      cases hx
      exact mg_ldc C hd hl (k _ _ same same)
  | iload_n i =>
    obtain rfl : 1 = len := hlen.resolve_left (by simp [mm_ln])
    obtain ⟨x, hl, rfl⟩ := mm_ld0 hx
    exact mg_iload_n C hd hl (k _ _ same same)
  | iload i =>
    obtain rfl : 2 = len := hlen.resolve_left (by simp [mm_ln])
    obtain ⟨x, hl, rfl⟩ := mm_ld0 hx
    exact mg_iload C hd hl (k _ _ same same)
  | lload_n i =>
    obtain rfl : 1 = len := hlen.resolve_left (by simp [mm_ln])
    obtain ⟨x, hl, rfl⟩ := mm_ld1 hx
    exact mg_lload_n C hd hl (k _ _ same same)
  | lload i =>
    obtain rfl : 2 = len := hlen.resolve_left (by simp [mm_ln])
    obtain ⟨x, hl, rfl⟩ := mm_ld1 hx
    exact mg_lload C hd hl (k _ _ same same)
  | aload_n i =>
    obtain rfl : 1 = len := hlen.resolve_left (by simp [mm_ln])
    rcases mm_ld2 hx with ⟨x, hl, rfl⟩ | ⟨hl, rfl⟩
    · exact mg_aload_n C hd hl (k _ _ same same)
    · exact mg_aload_nN C hd hl (k _ _ same same)
  | aload i =>
    obtain rfl : 2 = len := hlen.resolve_left (by simp [mm_ln])
    rcases mm_ld2 hx with ⟨x, hl, rfl⟩ | ⟨hl, rfl⟩
    · exact mg_aload C hd hl (k _ _ same same)
    · exact mg_aloadN C hd hl (k _ _ same same)
  | istore_n i =>
    obtain rfl : 1 = len := hlen.resolve_left (by simp [mm_ln])
    obtain ⟨x, r, rfl, hi, rfl⟩ := mm_sto0 hx
    exact mg_istore_n C hd hi (k _ _ same same)
  | istore i =>
    obtain rfl : 2 = len := hlen.resolve_left (by simp [mm_ln])
    obtain ⟨x, r, rfl, hi, rfl⟩ := mm_sto0 hx
    exact mg_istore C hd hi (k _ _ same same)
  | lstore_n i =>
    obtain rfl : 1 = len := hlen.resolve_left (by simp [mm_ln])
    obtain ⟨x, r, rfl, hi, rfl⟩ := mm_sto1 hx
    exact mg_lstore_n C hd hi (k _ _ same same)
  | lstore i =>
    obtain rfl : 2 = len := hlen.resolve_left (by simp [mm_ln])
    obtain ⟨x, r, rfl, hi, rfl⟩ := mm_sto1 hx
    exact mg_lstore C hd hi (k _ _ same same)
  | astore_n i =>
    obtain rfl : 1 = len := hlen.resolve_left (by simp [mm_ln])
    rcases mm_sto2 hx with ⟨x, r, rfl, hi, rfl⟩ | ⟨r, rfl, hi, rfl⟩
    · exact mg_astore_n C hd hi (k _ _ same same)
    · exact mg_astore_nN C hd hi (k _ _ same same)
  | astore i =>
    obtain rfl : 2 = len := hlen.resolve_left (by simp [mm_ln])
    rcases mm_sto2 hx with ⟨x, r, rfl, hi, rfl⟩ | ⟨r, rfl, hi, rfl⟩
    · exact mg_astore C hd hi (k _ _ same same)
    · exact mg_astoreN C hd hi (k _ _ same same)
  | iinc i n =>
    obtain rfl : 3 = len := hlen.resolve_left (by simp [mm_ln])
    simp only [mm_x] at hx
    cases hl : mm_lk ls i with
    | none => simp [hl] at hx
    | some v =>
      cases v <;> simp [hl] at hx
      obtain ⟨hi, rfl⟩ := hx
      exact mg_iinc C hd hl hi (k _ _ same same)
  | dup =>
    obtain rfl : 1 = len := hlen.resolve_left (by simp [mm_ln])
    cases st with
    | nil => simp [mm_x] at hx
    | cons v r =>
      simp [mm_x] at hx
      obtain ⟨hv, rfl⟩ := hx
      exact mg_dup C hd hv (k _ _ same same)
  | pop =>
    obtain rfl : 1 = len := hlen.resolve_left (by simp [mm_ln])
    cases st with
    | nil => simp [mm_x] at hx
    | cons v r =>
      simp [mm_x] at hx
      obtain ⟨hv, rfl⟩ := hx
      exact mg_pop C hd hv (k _ _ same same)
  | dup_x1 =>
    obtain rfl : 1 = len := hlen.resolve_left (by simp [mm_ln])
    match st, hx with
    | v :: u :: r, hx =>
      simp [mm_x] at hx
      obtain ⟨⟨hv, hu⟩, rfl⟩ := hx
      exact mg_dup_x1 C hd hv hu (k _ _ same same)
    | [], hx => simp [mm_x] at hx
    | [_], hx => simp [mm_x] at hx
  | dup2 =>
    obtain rfl : 1 = len := hlen.resolve_left (by simp [mm_ln])
    match st, hx with
    | v :: u :: r, hx =>
      simp [mm_x] at hx
      obtain ⟨⟨hv, hu⟩, rfl⟩ := hx
      exact mg_dup2 C hd hv hu (k _ _ same same)
    | [], hx => simp [mm_x] at hx
    | [_], hx => simp [mm_x] at hx
  | i2l =>
    obtain rfl : 1 = len := hlen.resolve_left (by simp [mm_ln])
    simp only [mm_x] at hx
    split at hx
    · cases hx
      exact mg_i2l C hd (k _ _ same same)
    · cases hx
  | l2i =>
    obtain rfl : 1 = len := hlen.resolve_left (by simp [mm_ln])
    simp only [mm_x] at hx
    split at hx
    · cases hx
      exact mg_l2i C hd (k _ _ same same)
    · cases hx
  | lshl =>
    obtain rfl : 1 = len := hlen.resolve_left (by simp [mm_ln])
    simp only [mm_x] at hx
    split at hx
    · cases hx
      exact mg_lshl C hd (k _ _ same same)
    · cases hx
  | lcmp =>
    obtain rfl : 1 = len := hlen.resolve_left (by simp [mm_ln])
    simp only [mm_x] at hx
    split at hx
    · cases hx
      exact mg_lcmp C hd (k _ _ same same)
    · cases hx
  | ifCond cd off =>
    obtain rfl : 3 = len := hlen.resolve_left (by simp [mm_ln])
    simp only [mm_x] at hx
    split at hx
    · rename_i x r
      by_cases hc : mm_cmp cd x 0 = true
      · rw [if_pos hc] at hx
        obtain ⟨h0, rfl⟩ := mm_go_spec hx
        exact mg_if C hd (fun _ => h0) (fun _ => k _ _ same same) (fun z => absurd hc z)
      · rw [if_neg hc] at hx
        cases hx
        exact mg_if C hd (fun z => absurd z hc) (fun z => absurd z hc) (fun _ => k _ _ same same)
    · cases hx
  | if_icmp cd off =>
    obtain rfl : 3 = len := hlen.resolve_left (by simp [mm_ln])
    simp only [mm_x] at hx
    split at hx
    · rename_i y x r
      by_cases hc : mm_cmp cd x y = true
      · rw [if_pos hc] at hx
        obtain ⟨h0, rfl⟩ := mm_go_spec hx
        exact mg_icmp C hd (fun _ => h0) (fun _ => k _ _ same same) (fun z => absurd hc z)
      · rw [if_neg hc] at hx
        cases hx
        exact mg_icmp C hd (fun z => absurd z hc) (fun z => absurd z hc) (fun _ => k _ _ same same)
    · cases hx
  | ifnonnull off =>
    obtain rfl : 3 = len := hlen.resolve_left (by simp [mm_ln])
    simp only [mm_x] at hx
    split at hx
    · cases hx
      exact mg_nonnullN C hd (k _ _ same same)
    · obtain ⟨h0, rfl⟩ := mm_go_spec hx
      exact mg_nonnull C hd h0 (k _ _ same same)
    · cases hx
  | goto off =>
    obtain rfl : 3 = len := hlen.resolve_left (by simp [mm_ln])
    obtain ⟨h0, rfl⟩ := mm_go_spec hx
    exact mg_goto C hd h0 (k _ _ same same)
  | tableswitch d lo hi offs =>
    simp only [mm_x] at hx
    split at hx
    · rename_i x r
      by_cases hc : x.toInt < lo ∨ hi < x.toInt
      · rw [if_pos hc] at hx
        obtain ⟨h0, rfl⟩ := mm_go_spec hx
        exact mg_tabOut C hd hc h0 (k _ _ same same)
      · rw [if_neg hc] at hx
        cases ho : offs[(x.toInt - lo).toNat]? with
        | none => rw [ho] at hx; cases hx
        | some o =>
          rw [ho] at hx
          obtain ⟨h0, rfl⟩ := mm_go_spec hx
          exact mg_tabIn C hd hc ho h0 (k _ _ same same)
    · cases hx
  | getfield i =>
    obtain rfl : 3 = len := hlen.resolve_left (by simp [mm_ln])
    simp only [mm_x] at hx
    split at hx
    · rename_i a r ci f hf
      split at hx
      · rename_i c9 hc
        obtain ⟨ci2, fs⟩ := c9
        split at hx
        · rename_i he
          split at hx
          · rename_i v hv
            cases hx
            have he' : ci2 = ci := he
            subst he'
            exact mg_get C hd hf hc hv (k _ _ same same)
          · cases hx
        · cases hx
      · cases hx
    · cases hx
  | putfield i =>
    obtain rfl : 3 = len := hlen.resolve_left (by simp [mm_ln])
    simp only [mm_x] at hx
    split at hx
    · rename_i v a r ci f hf
      split at hx
      · rename_i c9 hc
        obtain ⟨ci2, fs⟩ := c9
        split at hx
        · rename_i he
          obtain ⟨he', g1, g2, g3, g4⟩ := he
          have he' : ci2 = ci := he'
          subst he'
          cases hx
          exact mg_put C hd hf hc g1 g2 g3 g4 (k _ _ same same)
        · cases hx
      · cases hx
    · cases hx
  | iaload =>
    obtain rfl : 1 = len := hlen.resolve_left (by simp [mm_ln])
    simp only [mm_x] at hx
    split at hx
    · rename_i j a r
      split at hx
      · rename_i ha
        subst ha
        split at hx
        · rename_i xs
          split at hx
          · cases hx
          · rename_i hj
            split at hx
            · rename_i x hv
              cases hx
              exact mg_sld C (hsc xs rfl) hd hj hv (k _ _ same same)
            · cases hx
        · cases hx
      · split at hx
        · rename_i c9 hc
          obtain ⟨ci2, fs⟩ := c9
          split at hx
          · rename_i he
            have he' : ci2 = 5 := he
            subst he'
            split at hx
            · rename_i v hv
              cases hx
              exact mg_iald C hd hc hv (k _ _ same same)
            · cases hx
          · cases hx
        · cases hx
    · cases hx
  | laload =>
    obtain rfl : 1 = len := hlen.resolve_left (by simp [mm_ln])
    simp only [mm_x] at hx
    split at hx
    · split at hx
      · rename_i c9 hc
        obtain ⟨ci2, fs⟩ := c9
        split at hx
        · rename_i he
          have he' : ci2 = 6 := he
          subst he'
          split at hx
          · rename_i v hv
            cases hx
            exact mg_lald C hd hc hv (k _ _ same same)
          · cases hx
        · cases hx
      · cases hx
    · cases hx
  | aaload =>
    obtain rfl : 1 = len := hlen.resolve_left (by simp [mm_ln])
    simp only [mm_x] at hx
    split at hx
    · split at hx
      · rename_i c9 hc
        obtain ⟨ci2, fs⟩ := c9
        split at hx
        · rename_i he
          split at hx
          · rename_i v hv
            cases hx
            exact mg_aald C hd he hc hv (k _ _ same same)
          · cases hx
        · cases hx
      · cases hx
    · cases hx
  | iastore =>
    obtain rfl : 1 = len := hlen.resolve_left (by simp [mm_ln])
    simp only [mm_x] at hx
    split at hx
    · split at hx
      · rename_i c9 hc
        obtain ⟨ci2, fs⟩ := c9
        split at hx
        · rename_i he
          obtain ⟨he', g1, g2⟩ := he
          have he' : ci2 = 5 := he'
          subst he'
          cases hx
          exact mg_iast C hd hc g1 g2 (k _ _ same same)
        · cases hx
      · cases hx
    · cases hx
  | lastore =>
    obtain rfl : 1 = len := hlen.resolve_left (by simp [mm_ln])
    simp only [mm_x] at hx
    split at hx
    · split at hx
      · rename_i c9 hc
        obtain ⟨ci2, fs⟩ := c9
        split at hx
        · rename_i he
          obtain ⟨he', g1, g2⟩ := he
          have he' : ci2 = 6 := he'
          subst he'
          cases hx
          exact mg_last C hd hc g1 g2 (k _ _ same same)
        · cases hx
      · cases hx
    · cases hx
  | aastore =>
    obtain rfl : 1 = len := hlen.resolve_left (by simp [mm_ln])
    simp only [mm_x] at hx
    split at hx
    · rename_i v j a r
      split at hx
      · rename_i c9 hc
        obtain ⟨ci2, fs⟩ := c9
        split at hx
        · rename_i he
          obtain ⟨he, g1, g2⟩ := he
          cases hx
          have kk := k _ _ (same (a := cells) (b := h.1)) (same (a := slots) (b := h.2.1))
          have he2 : (ci2 = 7 ∧ mm_okv h 0 v = true) ∨ (ci2 = 8 ∧ mm_okv h 1 v = true) := he
          cases v with
          | null => exact mg_aastN C hd (by rcases he2 with ⟨q, -⟩ | ⟨q, -⟩ <;> simp [q]) hc g1 g2 kk
          | ref b =>
            have key : ∀ z, ci2 = 7 + z → (z = 0 ∨ z = 1) → mm_okv h z (.ref b) = true → mm_G p l e R s m args below meth c Q D B M pc ls (.ref b :: .int j :: .ref a :: r) h cells slots := by
              intro z hz hz1 hok
              subst hz
              simp only [mm_okv] at hok
              split at hok
              · rename_i c8 hb8
                obtain ⟨ci8, us⟩ := c8
                have e8 : ci8 = z := by simpa using hok
                subst e8
                exact mg_aast C hd hz1 hc hb8 g1 g2 kk
              · cases hok
            rcases he2 with ⟨q1, q2⟩ | ⟨q1, q2⟩
            · exact key 0 q1 (Or.inl rfl) q2
            · exact key 1 q1 (Or.inr rfl) q2
          | _ => rcases he2 with ⟨q1, q2⟩ | ⟨q1, q2⟩ <;> cases q2
        · cases hx
      · cases hx
    · cases hx
  | arraylength =>
    obtain rfl : 1 = len := hlen.resolve_left (by simp [mm_ln])
    simp only [mm_x] at hx
    split at hx
    · rename_i a r xs
      split at hx
      · rename_i ha
        subst ha
        cases hx
        exact mg_slen C (hsc xs rfl) hd (k _ _ same same)
      · cases hx
    · cases hx
  | newarray ty =>
    obtain rfl : 2 = len := hlen.resolve_left (by simp [mm_ln])
    simp only [mm_x] at hx
    split at hx
    · rename_i n r
      split at hx
      · cases hx
      · rename_i hn
        cases hx
        have hn2 : (mm_new h (5, List.replicate n.toNatClampNeg (.int 0))).2.1 = h.2.1 + n.toNatClampNeg := by simp [mm_new]
        have hn1 : (mm_new h (5, List.replicate n.toNatClampNeg (.int 0))).1 = h.1 + 1 := rfl
        dsimp only at hr k
        rw [hn1, hn2] at hr k
        exact mg_newI C hd (fun z => hn (Or.inl z)) (fun z => hn (Or.inr z)) (by omega) (by omega) (k _ _ (by omega) (by omega))
    · rename_i n r
      split at hx
      · cases hx
      · rename_i hn
        cases hx
        have hn2 : (mm_new h (6, List.replicate n.toNatClampNeg (.long 0))).2.1 = h.2.1 + n.toNatClampNeg := by simp [mm_new]
        have hn1 : (mm_new h (6, List.replicate n.toNatClampNeg (.long 0))).1 = h.1 + 1 := rfl
        dsimp only at hr k
        rw [hn1, hn2] at hr k
        exact mg_newJ C hd (fun z => hn (Or.inl z)) (fun z => hn (Or.inr z)) (by omega) (by omega) (k _ _ (by omega) (by omega))
    · cases hx
  | anewarray i =>
    obtain rfl : 3 = len := hlen.resolve_left (by simp [mm_ln])
    simp only [mm_x] at hx
    split at hx
    · rename_i n r z hz
      split at hx
      · cases hx
      · rename_i hn
        cases hx
        have hn2 : (mm_new h (7 + z, List.replicate n.toNatClampNeg .null)).2.1 = h.2.1 + n.toNatClampNeg := by simp [mm_new]
        have hn1 : (mm_new h (7 + z, List.replicate n.toNatClampNeg .null)).1 = h.1 + 1 := rfl
        dsimp only at hr k
        rw [hn1, hn2] at hr k
        exact mg_newA C hd hz (by omega) (fun z => hn (Or.inl z)) (fun z => hn (Or.inr (Or.inl z))) (by omega) (by omega) (k _ _ (by omega) (by omega))
    · cases hx
  | multianewarray i d =>
    obtain rfl : 4 = len := hlen.resolve_left (by simp [mm_ln])
    simp only [mm_x] at hx
    split at hx
    · rename_i kk n r hz
      split at hx
      · cases hx
      · rename_i hn
        cases hx
        have hn2 : (mm_grid h n.toNatClampNeg kk.toNatClampNeg).2.1 = h.2.1 + (n.toNatClampNeg + n.toNatClampNeg * kk.toNatClampNeg) := rfl
        have hn1 : (mm_grid h n.toNatClampNeg kk.toNatClampNeg).1 = h.1 + 1 + n.toNatClampNeg := rfl
        dsimp only at hr k
        rw [hn1, hn2] at hr k
        have hd2 : d = 2 := Classical.not_not.mp (fun z => hn (Or.inr (Or.inr (Or.inr (Or.inr z)))))
        subst hd2
        exact mg_mna C hd hz (fun z => hn (Or.inl z)) (fun z => hn (Or.inr (Or.inl z))) (fun z => hn (Or.inr (Or.inr (Or.inl z)))) (fun z => hn (Or.inr (Or.inr (Or.inr (Or.inl z))))) (by omega) (by omega) (k _ _ (by omega) (by omega))
    · cases hx
  | new i =>
    obtain rfl : 3 = len := hlen.resolve_left (by simp [mm_ln])
    simp only [mm_x] at hx
    split at hx
    · rename_i z hz
      split at hx
      · cases hx
      · rename_i hn
        cases hx
        have hn2 : (mm_new h (z, mm_df z)).2.1 = h.2.1 + (mm_df z).length := rfl
        have hn1 : (mm_new h (z, mm_df z)).1 = h.1 + 1 := rfl
        dsimp only at hr k
        rw [hn1, hn2] at hr k
        exact mg_new C hd hz (by omega) (by omega) (by omega) (k _ _ (by omega) (by omega))
    · cases hx
  | invokestatic i =>
    obtain rfl : 3 = len := hlen.resolve_left (by simp [mm_ln])
    simp only [mm_x] at hx
    split at hx
    · rename_i z hz
      split at hx
      · split at hx
        · rename_i hn
          cases hx
          have h9 : cells + (h.1 - h.1) ≤ R.cells ∧ slots + (h.2.1 - h.2.1) ≤ R.slots := hr
          exact mg_maxI C hd hz (by omega) (by omega) hn.2 (by omega) (by omega) (k _ _ same same)
        · cases hx
      · split at hx
        · rename_i hn
          cases hx
          have h9 : cells + (h.1 - h.1) ≤ R.cells ∧ slots + (h.2.1 - h.2.1) ≤ R.slots := hr
          exact mg_maxJ C hd hz (by omega) (by omega) hn.2 (by omega) (by omega) (k _ _ same same)
        · cases hx
      · cases hx
    · split at hx
      · unfold mm_call at hx
        split at hx <;> cases hx
      · cases hx
  | invokevirtual i =>
    simp only [mm_x] at hx
    split at hx
    · split at hx
      · unfold mm_call at hx
        split at hx <;> cases hx
      · cases hx
    · cases hx
  | invokespecial i =>
    obtain rfl : 3 = len := hlen.resolve_left (by simp [mm_ln])
    simp only [mm_x] at hx
    split at hx
    · rename_i ho
      split at hx
      · split at hx
        · rename_i hn
          cases hx
          exact mg_obj C hd (by simpa using ho) (by omega) (by omega) hn.2 (k _ _ same same)
        · cases hx
      · cases hx
    · split at hx
      · split at hx
        · unfold mm_call at hx
          split at hx <;> cases hx
        · cases hx
      · cases hx
  | ireturn =>
    simp only [mm_x] at hx
    split at hx
    · split at hx <;> cases hx
    · cases hx
  | lreturn =>
    simp only [mm_x] at hx
    split at hx
    · split at hx <;> cases hx
    · cases hx
  | return_ =>
    simp only [mm_x] at hx
    split at hx
    · split at hx <;> cases hx
    · cases hx
  | iadd =>
    obtain rfl : 1 = len := hlen.resolve_left (by simp [mm_ln])
    simp only [mm_x, mm_bi, mm_bl] at hx
    split at hx
    · cases hx
      exact mg_iadd C hd (k _ _ same same)
    · cases hx
    · cases hx
  | isub =>
    obtain rfl : 1 = len := hlen.resolve_left (by simp [mm_ln])
    simp only [mm_x, mm_bi, mm_bl] at hx
    split at hx
    · cases hx
      exact mg_isub C hd (k _ _ same same)
    · cases hx
    · cases hx
  | imul =>
    obtain rfl : 1 = len := hlen.resolve_left (by simp [mm_ln])
    simp only [mm_x, mm_bi, mm_bl] at hx
    split at hx
    · cases hx
      exact mg_imul C hd (k _ _ same same)
    · cases hx
    · cases hx
  | iand =>
    obtain rfl : 1 = len := hlen.resolve_left (by simp [mm_ln])
    simp only [mm_x, mm_bi, mm_bl] at hx
    split at hx
    · cases hx
      exact mg_iand C hd (k _ _ same same)
    · cases hx
    · cases hx
  | irem =>
    obtain rfl : 1 = len := hlen.resolve_left (by simp [mm_ln])
    simp only [mm_x, mm_bi, mm_bl] at hx
    split at hx
    · rename_i y x r
      by_cases hy : y = 0
      · rw [if_pos hy] at hx
        cases hx
      · rw [if_neg hy] at hx
        cases hx
        exact mg_irem C hd hy (k _ _ same same)
    · cases hx
    · cases hx
  | ladd =>
    obtain rfl : 1 = len := hlen.resolve_left (by simp [mm_ln])
    simp only [mm_x, mm_bi, mm_bl] at hx
    split at hx
    · cases hx
    · cases hx
      exact mg_ladd C hd (k _ _ same same)
    · cases hx
  | land =>
    obtain rfl : 1 = len := hlen.resolve_left (by simp [mm_ln])
    simp only [mm_x, mm_bi, mm_bl] at hx
    split at hx
    · cases hx
    · cases hx
      exact mg_land C hd (k _ _ same same)
    · cases hx
  | lor =>
    obtain rfl : 1 = len := hlen.resolve_left (by simp [mm_ln])
    simp only [mm_x, mm_bi, mm_bl] at hx
    split at hx
    · cases hx
    · cases hx
      exact mg_lor C hd (k _ _ same same)
    · cases hx
  | ldiv =>
    obtain rfl : 1 = len := hlen.resolve_left (by simp [mm_ln])
    simp only [mm_x, mm_bi, mm_bl] at hx
    split at hx
    · cases hx
    · rename_i y x r
      by_cases hy : y = 0
      · rw [if_pos hy] at hx
        cases hx
      · rw [if_neg hy] at hx
        cases hx
        exact mg_ldiv C hd hy (k _ _ same same)
    · cases hx
  | _ =>
    simp only [mm_x, mm_bi, mm_bl] at hx
    split at hx <;> cases hx
end MG
end
section
/-! A RUN OF THE MINI-MACHINE IS A RUN OF THE MACHINE -/
theorem mm_ld_h {ty pc i : Nat} {ls : mm_L} {st : List Value} {h : mm_H} {q : Nat × mm_L × List Value × mm_H} (hx : mm_ld ty pc ls st h i = some (.inl q)) : q.2.2.2 = h := by
  unfold mm_ld at hx
  split at hx <;> cases hx <;> rfl
theorem mm_sto_h {ty nL pc i : Nat} {ls : mm_L} {st : List Value} {h : mm_H} {q : Nat × mm_L × List Value × mm_H} (hx : mm_sto ty nL pc ls st h i = some (.inl q)) : q.2.2.2 = h := by
  unfold mm_sto at hx
  split at hx <;> first | (split at hx <;> cases hx <;> rfl) | cases hx
theorem mm_go_h {pc : Nat} {off : Int} {ls : mm_L} {st : List Value} {h : mm_H} {q : Nat × mm_L × List Value × mm_H} (hx : mm_go pc off ls st h = some (.inl q)) : q.2.2.2 = h := by
  obtain ⟨-, rfl⟩ := mm_go_spec hx
  rfl
theorem mm_le_of_eq {h h' : mm_H} (e : h' = h) : h.1 ≤ h'.1 ∧ h.2.1 ≤ h'.2.1 := by rw [e]; exact ⟨Nat.le_refl _, Nat.le_refl _⟩
theorem mm_call_inl {t : mm_T} {n : Nat} {st : List Value} {q : Nat × mm_L × List Value × mm_H} (hx : mm_call t n st = some (.inl q)) : False := by
  unfold mm_call at hx
  split at hx <;> cases hx
set_option maxHeartbeats 4000000 in
theorem mm_x_mono {sc : Option (List Int32)} {F pc : Nat} {M : mm_T} {ins : Instr} {ls : mm_L} {st : List Value} {h : mm_H} {q : Nat × mm_L × List Value × mm_H} (hx : mm_x sc F M ins pc ls st h = some (.inl q)) : h.1 ≤ q.2.2.2.1 ∧ h.2.1 ≤ q.2.2.2.2.1 := by
  cases ins <;> simp only [mm_x] at hx <;> first
    | exact mm_le_of_eq (mm_ld_h hx)
    | exact mm_le_of_eq (mm_sto_h hx)
    | exact mm_le_of_eq (mm_go_h hx)
    | (cases hx; exact ⟨Nat.le_refl _, Nat.le_refl _⟩)
    | ((repeat' split at hx) <;> first
        | exact mm_le_of_eq (mm_go_h hx)
        | exact (mm_call_inl hx).elim
        | (cases hx; exact ⟨Nat.le_refl _, Nat.le_refl _⟩)
        | (cases hx; exact ⟨Nat.le_succ _, Nat.le_add_right _ _⟩)
        | (cases hx; exact ⟨by show h.1 ≤ h.1 + 1 + _; omega, Nat.le_add_right _ _⟩)
        | cases hx)
theorem mm_run_mono : ∀ {n : Nat} {sc : Option (List Int32)} {F pc : Nat} {M : mm_T} {ls : mm_L} {st : List Value} {h : mm_H} {r : Option Value} {h' : mm_H}, mm_run n sc F M pc ls st h = some (r, h') → h.1 ≤ h'.1 ∧ h.2.1 ≤ h'.2.1 := by
  intro n
  induction n with
  | zero => intro sc F pc M ls st h r h' hx; cases hx
  | succ n ih =>
    intro sc F pc M ls st h r h' hx
    unfold mm_run at hx
    split at hx
    · cases hx
    · split at hx
      · cases hx
      · rename_i hq
        have h1 := mm_x_mono hq
        have h2 := ih hx
        exact ⟨Nat.le_trans h1.1 h2.1, Nat.le_trans h1.2 h2.2⟩
      · split at hx
        · cases hx
        · split at hx
          · cases hx
          · rename_i hc
            have h1 := ih hc
            have h2 := ih hx
            exact ⟨Nat.le_trans h1.1 h2.1, Nat.le_trans h1.2 h2.2⟩
      · cases hx
        exact ⟨Nat.le_refl _, Nat.le_refl _⟩
/-- a return instruction, and what it returns -/
def mm_Ret (M : mm_T) (pc : Nat) (r : Option Value) : Prop :=
  (∃ v, r = some (.int v) ∧ decode M.2.2.1 pc = .ok (.ireturn, 1) ∧ (M.2.2.2.2.1 = some .int ∨ (M.2.2.2.2.1 = some .boolean ∧ (v = 0 ∨ v = 1)))) ∨ (∃ v, r = some (.long v) ∧ decode M.2.2.1 pc = .ok (.lreturn, 1) ∧ M.2.2.2.2.1 = some .long) ∨ (r = none ∧ decode M.2.2.1 pc = .ok (.return_, 1) ∧ M.2.2.2.2.1 = none)
theorem mm_call_inr {t : mm_T} {n : Nat} {st : List Value} {r : Option Value} (hx : mm_call t n st = some (.inr (.inr r))) : False := by
  unfold mm_call at hx
  split at hx <;> cases hx
theorem mm_ld_r {ty pc i : Nat} {ls : mm_L} {st : List Value} {h : mm_H} {q} (hx : mm_ld ty pc ls st h i = some (.inr q)) : False := by
  unfold mm_ld at hx
  split at hx <;> cases hx
theorem mm_sto_r {ty nL pc i : Nat} {ls : mm_L} {st : List Value} {h : mm_H} {q} (hx : mm_sto ty nL pc ls st h i = some (.inr q)) : False := by
  unfold mm_sto at hx
  split at hx <;> first | (split at hx <;> cases hx) | cases hx
theorem mm_go_r {pc : Nat} {off : Int} {ls : mm_L} {st : List Value} {h : mm_H} {q} (hx : mm_go pc off ls st h = some (.inr q)) : False := by
  unfold mm_go at hx
  split at hx <;> cases hx
set_option maxHeartbeats 4000000 in
theorem mm_x_ret {sc : Option (List Int32)} {F pc : Nat} {M : mm_T} {ins : Instr} {ls : mm_L} {st : List Value} {h : mm_H} {r : Option Value} (hat : mm_at M pc = some ins) (hx : mm_x sc F M ins pc ls st h = some (.inr (.inr r))) : mm_Ret M pc r ∧ st = r.toList := by
  obtain ⟨len, hd, hlen⟩ := mm_at_dec hat
  cases ins with
  | ireturn =>
    obtain rfl : 1 = len := hlen.resolve_left (by simp [mm_ln])
    simp only [mm_x] at hx
    split at hx
    · split at hx
      · rename_i hc
        cases hx
        exact ⟨Or.inl ⟨_, rfl, hd, hc⟩, rfl⟩
      · cases hx
    · cases hx
  | lreturn =>
    obtain rfl : 1 = len := hlen.resolve_left (by simp [mm_ln])
    simp only [mm_x] at hx
    split at hx
    · split at hx
      · rename_i hc
        cases hx
        exact ⟨Or.inr (Or.inl ⟨_, rfl, hd, hc⟩), rfl⟩
      · cases hx
    · cases hx
  | return_ =>
    obtain rfl : 1 = len := hlen.resolve_left (by simp [mm_ln])
    simp only [mm_x] at hx
    split at hx
    · split at hx
      · rename_i hc
        cases hx
        exact ⟨Or.inr (Or.inr ⟨rfl, hd, hc⟩), rfl⟩
      · cases hx
    · cases hx
  | _ =>
    simp only [mm_x] at hx
    first
      | exact (mm_ld_r hx).elim
      | exact (mm_sto_r hx).elim
      | exact (mm_go_r hx).elim
      | (cases hx; done)
      | ((repeat' split at hx) <;> first
        | exact (mm_go_r hx).elim
        | exact (mm_call_inr hx).elim
        | cases hx)
/-- what a call of the mini-machine is -/
def mm_Call (M : mm_T) (ins : Instr) (st : List Value) (h : mm_H) (t : mm_T) (as rest : List Value) : Prop :=
  st = as.reverse ++ rest ∧ (rest.map fun v => v.category).sum ≤ 8 ∧ (as.map fun v => v.category).sum ≤ t.2.2.2.1 ∧
  ∃ i k, mm_mth M.1 i = some (k, t) ∧ ((k = 0 ∧ ins = .invokestatic i ∧ as.length = t.2.2.2.2.2) ∨ ((k = 1 ∧ ins = .invokevirtual i ∨ (k = 2 ∨ k = 3) ∧ ins = .invokespecial i) ∧ ∃ a As fs, as = .ref a :: As ∧ As.length = t.2.2.2.2.2 ∧ h.2.2 a = some (t.1, fs)))
theorem mm_call_spec {t u : mm_T} {n : Nat} {st as rest : List Value} (hx : mm_call t n st = some (.inr (.inl (u, as, rest)))) : u = t ∧ n ≤ st.length ∧ as = (st.take n).reverse ∧ st = as.reverse ++ rest ∧ (rest.map fun v => v.category).sum ≤ 8 ∧ (as.map fun v => v.category).sum ≤ t.2.2.2.1 := by
  unfold mm_call at hx
  split at hx
  · rename_i hc
    cases hx
    refine ⟨rfl, hc.1, rfl, by rw [List.reverse_reverse, List.take_append_drop], hc.2.1, ?_⟩
    rw [List.map_reverse, List.sum_reverse]
    exact hc.2.2
  · cases hx
theorem mm_this_spec {h : mm_H} {n k : Nat} {st : List Value} (hx : mm_this h n k st = true) : ∃ a fs, st[n]? = some (.ref a) ∧ h.2.2 a = some (k, fs) := by
  unfold mm_this at hx
  split at hx
  · rename_i a ha
    split at hx
    · rename_i c hc
      obtain ⟨ci, fs⟩ := c
      have e : ci = k := by simpa using hx
      subst e
      exact ⟨a, fs, ha, hc⟩
    · cases hx
  · cases hx
theorem mm_take_this {st : List Value} {n : Nat} {v : Value} (h : st[n]? = some v) : (st.take (n + 1)).reverse = v :: (st.take n).reverse := by
  rw [List.take_add_one, h]
  simp
set_option maxHeartbeats 4000000 in
theorem mm_x_call {sc : Option (List Int32)} {F pc : Nat} {M : mm_T} {ins : Instr} {ls : mm_L} {st : List Value} {h : mm_H} {t : mm_T} {as rest : List Value} (hx : mm_x sc F M ins pc ls st h = some (.inr (.inl (t, as, rest)))) : mm_Call M ins st h t as rest := by
  cases ins with
  | invokestatic i =>
    simp only [mm_x] at hx
    split at hx
    · split at hx
      · split at hx <;> cases hx
      · split at hx <;> cases hx
      · cases hx
    · split at hx
      · rename_i u hm
        obtain ⟨rfl, h1, h2, h3, h4, h5⟩ := mm_call_spec hx
        exact ⟨h3, h4, h5, i, 0, hm, Or.inl ⟨rfl, rfl, by rw [h2, List.length_reverse, List.length_take]; omega⟩⟩
      · cases hx
  | invokevirtual i =>
    simp only [mm_x] at hx
    split at hx
    · rename_i u hm
      split at hx
      · rename_i ht
        obtain ⟨rfl, h1, h2, h3, h4, h5⟩ := mm_call_spec hx
        obtain ⟨a, fs, ha, hc⟩ := mm_this_spec ht
        exact ⟨h3, h4, h5, i, 1, hm, Or.inr ⟨Or.inl ⟨rfl, rfl⟩, a, _, fs, h2.trans (mm_take_this ha), by rw [List.length_reverse, List.length_take]; omega, hc⟩⟩
      · cases hx
    · cases hx
  | invokespecial i =>
    simp only [mm_x] at hx
    split at hx
    · split at hx
      · split at hx <;> cases hx
      · cases hx
    · split at hx
      · rename_i k u hm
        split at hx
        · rename_i ht
          obtain ⟨rfl, h1, h2, h3, h4, h5⟩ := mm_call_spec hx
          obtain ⟨a, fs, ha, hc⟩ := mm_this_spec ht.2
          exact ⟨h3, h4, h5, i, k, hm, Or.inr ⟨Or.inr ⟨ht.1, rfl⟩, a, _, fs, h2.trans (mm_take_this ha), by rw [List.length_reverse, List.length_take]; omega, hc⟩⟩
        · cases hx
      · cases hx
  | _ =>
    simp only [mm_x] at hx
    first
      | exact (mm_ld_r hx).elim
      | exact (mm_sto_r hx).elim
      | exact (mm_go_r hx).elim
      | (cases hx; done)
      | ((repeat' split at hx) <;> first
        | exact (mm_go_r hx).elim
        | cases hx)
theorem mm_mp_args (B : Nat × Nat) : ∀ (as : List Value) (i : Nat), mm_mp B (lv_args i as) = lv_args i (as.map (mm_sh B))
  | [], _ => rfl
  | v :: vs, i => by
    show (i, mm_sh B v) :: mm_mp B (lv_args (if v.category = 2 then i + 2 else i + 1) vs) = (i, mm_sh B v) :: lv_args (if (mm_sh B v).category = 2 then i + 2 else i + 1) (vs.map (mm_sh B))
    rw [mm_mp_args B vs, mm_sh_cat]
theorem mm_sl_len (B : Nat × Nat) : ∀ (as : List Value), (lg_sl (as.map (mm_sh B))).length = (as.map fun v => v.category).sum
  | [] => rfl
  | v :: vs => by
    have ih := mm_sl_len B vs
    unfold lg_sl at ih ⊢
    rw [List.map_cons, List.flatMap_cons, List.length_append, ih, List.map_cons, List.sum_cons, mm_sh_cat]
    congr 1
    rcases lv_cat v with h | h <;> simp [h]
def mm_Pc (D : va_G) (B : Nat × Nat) (as : List Value) (h : mm_H) : Array Value → State → Prop := fun v U => v = (as.map (mm_sh B)).toArray ∧ mm_HP D B h U.heap ∧ mm_WF D U
def mm_Qc (D : va_G) (B : Nat × Nat) (r : Option Value) (h : mm_H) : Array Value → State → Outcome → State → Prop := fun _ st o t => o = .returned (r.map (mm_sh B)) ∧ mm_HP D B h t.heap ∧ va_F (fun q => B.2 ≤ q) st t
def mm_ws (t : mm_T) : List Cond := .code t.2.1 t.2.2.1 t.2.2.2.1 t.2.2.2.2.1 :: mm_Ws
def mm_rm (F k n : Nat) : Room := { frames := F, cells := k, slots := n, locals := 40 * F }
section MG
variable {p : Program} {l : Launch} {e : Env} {R : Room} {s : State} {m : MethodId} {args : Array Value} {below : List Frame} {meth : Method} {c : Code} {Q : State → Prop} {D : va_G} {B : Nat × Nat} {M : mm_T}
variable {pc cells slots : Nat} {ls : mm_L} {st r : List Value} {h : mm_H}
theorem mm_callK {H : Heap} {locs : List Loc} {mc ms : Nat} {lsA : Array Slot} {st0 rest' : List Value} {a : Array Value} {rv : Option Value} {h' : mm_H} (hr : va_Run p l e R s m args below meth c H locs cells slots mc ms (F0 m pc lsA st0) rest' (mm_Qc D B rv h' a) (fun q => B.2 ≤ q)) (hS : va_S (fun q => B.2 ≤ q) s.heap H locs)
    (kk : ∀ (H1 : Heap) (locs1 : List Loc), mm_HP D B h' H1 → va_S (fun q => B.2 ≤ q) s.heap H1 locs1 → W p l e R s m args below meth c H1 locs1 (cells + mc) (slots + ms) Q (F0 m (pc + 3) lsA ((rv.map (mm_sh B)).toList ++ rest'))) : W p l e R s m args below meth c H locs cells slots Q (F0 m pc lsA st0) := by
  intro T hT X
  obtain ⟨v, st₀, t, T', L, h0, X', hL, e1, e2, ⟨hv, hP, hz, hk⟩, st⟩ := hr T hT X
  cases hv
  rw [h0] at hz hk
  obtain ⟨t2, a1, b1⟩ := kk T'.heap (locs ++ L) (by rw [e1]; exact hP) ⟨Nat.le_trans hS.1 (by rw [e1]; exact hz), fun q h1 h2 => by rw [e1, hk q (Nat.lt_of_lt_of_le h1 hS.1) h2]; exact hS.2.1 q h1 h2, fun q hq => by
      rcases List.mem_append.mp hq with h | h
      · exact hS.2.2 q h
      · exact hL q h⟩ T' rfl X'
  exact ⟨t2, st t2 a1, b1⟩
end MG
/-- the simulation, for runs of n fuel -/
def mm_Sim (l : Launch) (D : va_G) (B : Nat × Nat) (n : Nat) : Prop :=
  ∀ (p : Program) (e : Env) (R : Room) (s : State) (m : MethodId) (args : Array Value) (below : List Frame) (meth : Method) (c : Code) (Q : State → Prop) (M : mm_T) (sc : Option (List Int32)) (F pc : Nat) (ls : mm_L) (st : List Value) (h h' : mm_H) (r : Option Value) (cells slots : Nat),
    mm_Ctx p s m args meth c D B M → (∀ xs, sc = some xs → va_X B.1 xs.length (fun j => xs.getD j 0) s s.heap) → (F ≤ R.frames ∧ 40 * F ≤ R.locals) → mm_run n sc F M pc ls st h = some (r, h') → (cells + (h'.1 - h.1) ≤ R.cells ∧ slots + (h'.2.1 - h.2.1) ≤ R.slots) →
    (∀ (pcr : Nat) (H' : Heap) (locs' : List Loc) (lsA : Array Slot), mm_Ret M pcr r → mm_HP D B h' H' → va_S (fun q => B.2 ≤ q) s.heap H' locs' → W p l e R s m args below meth c H' locs' (cells + (h'.1 - h.1)) (slots + (h'.2.1 - h.2.1)) Q (F0 m pcr lsA (r.toList.map (mm_sh B)))) → mm_G p l e R s m args below meth c Q D B M pc ls st h cells slots
theorem mm_good {t : mm_T} (hc : Cond.code t.2.1 t.2.2.1 t.2.2.2.1 t.2.2.2.2.1 ∈ mm_Ws) : GoodIn mm_Ws (mm_ws t) := by
  intro w hw
  have hw2 : w ∈ mm_Ws := by
    rcases List.mem_cons.mp hw with rfl | h
    · exact hc
    · exact h
  exact ⟨hw2, good_of_word (List.mem_filter.mp hw2).2⟩
theorem mm_met {l : Launch} {D : va_G} {B : Nat × Nat} {n F : Nat} {t : mm_T} {as : List Value} {h h' : mm_H} {r : Option Value} (hB : B.1 < B.2) (IH : mm_Sim l D B n) (hy : t.2.1.cls = mm_cn t.1) (hpl : plainName t.2.1.cls = true) (has : (as.map fun v => v.category).sum ≤ t.2.2.2.1) (hrun : mm_run n none F t 0 (lv_args 0 as) [] h = some (r, h')) :
    Met l t.2.1 (mm_ws t) (mm_rm F (h'.1 - h.1) (h'.2.1 - h.2.1)) (mm_Pc D B as h) (mm_Qc D B r h') (h'.1 - h.1) (h'.2.1 - h.2.1) (fun q => B.2 ≤ q) := by
  refine Met.ofW (cc := t.2.2.1) (maxL := t.2.2.2.1) (ret := t.2.2.2.2.1) hpl rfl ?_
  intro p e s m args below meth c s₁ B9 hml hv
  obtain ⟨rfl, hP, hWF⟩ := hv
  have hts := atoms_spec (ws := mm_ws t) B9.pre
  have hown : s.vm.findClass (mm_cn t.1) = some m.cls := by rw [← hy]; exact findClass_of_methodNamed B9.named
  have hlocks := B9.notSynchronized
  have hret := B9.returns
  have C : mm_Ctx p s m (as.map (mm_sh B)).toArray meth c D B t := ⟨B9.exec, B9.bytes, hml, hown, fun w hw => hts w (List.mem_cons_of_mem _ hw), hWF, fun hi => (name_of_methodNamed B9.named B9.method).1.trans hi, hB, by have h1 := hP.1; have h2 := hP.2.1; omega⟩
  have hl := lv_entry (as.map (mm_sh B)) (n := t.2.2.2.1) (by rw [mm_sl_len]; exact has)
  rw [← mm_mp_args] at hl
  rw [lg_entry_eq]
  refine IH p e _ s m _ below meth c _ t none F 0 (lv_args 0 as) [] h h' r 0 0 C (fun xs h => by cases h) ⟨Nat.le_refl _, Nat.le_refl _⟩ hrun ⟨by rw [Nat.zero_add]; exact Nat.le_refl _, by rw [Nat.zero_add]; exact Nat.le_refl _⟩ ?_ s.heap [] _ hP va_S.rf hl
  intro pcr H' locs' lsA hR hP' hS'
  rw [Nat.zero_add, Nat.zero_add]
  have hq : ∀ t2 : State, t2.heap = H' → s.WarmedH t2.vm → mm_Qc D B r h' (as.map (mm_sh B)).toArray s (.returned (r.map (mm_sh B))) t2 := fun t2 ht _ => ⟨rfl, by rw [ht]; exact hP', hS'.F ht⟩
  rcases hR with ⟨v, rfl, hd, hty⟩ | ⟨v, rfl, hd, hty⟩ | ⟨rfl, hd, hty⟩
  · rcases hty with hty | ⟨hty, hv⟩
    · exact W.iret B9.exec B9.bytes (hret.trans hty) hq hS'.2.2 hd
    · exact W.zret (ty := .boolean) B9.exec B9.bytes (hret.trans hty) (by rcases hv with rfl | rfl <;> rfl) hq hS'.2.2 hd
  · exact W.lret B9.exec B9.bytes (hret.trans hty) hq hS'.2.2 hd
  · exact W.vret B9.exec B9.bytes (hret.trans hty) hq hS'.2.2 hd
theorem mm_mth_spec {o i k : Nat} {t : mm_T} (h : mm_mth o i = some (k, t)) : ((o, i, k, t) : Nat × Nat × Nat × mm_T) ∈ mm_mthL := by
  obtain ⟨q, hq, hv⟩ := Option.map_eq_some_iff.mp h
  have h1 := List.find?_some hq
  have h2 := List.mem_of_find?_eq_some hq
  simp only [Bool.and_eq_true, beq_iff_eq] at h1
  obtain ⟨a, b, c⟩ := q
  have e1 : a = o := h1.1
  have e2 : b = i := h1.2
  have e3 : c = (k, t) := hv
  subst e1; subst e2; subst e3
  exact h2
theorem mm_blind {D : va_G} {B : Nat × Nat} {as : List Value} {h : mm_H} : FrameBlind (mm_Pc D B as h) := fun a U g mk q => ⟨q.1, q.2.1, mm_WF.same (U := U.calling g mk a) rfl q.2.2⟩
section MG
variable {p : Program} {l : Launch} {e : Env} {R : Room} {s : State} {m : MethodId} {args : Array Value} {below : List Frame} {meth : Method} {c : Code} {Q : State → Prop} {D : va_G} {B : Nat × Nat} {M : mm_T}
variable {pc cells slots : Nat} {ls : mm_L} {st r : List Value} {h : mm_H}
set_option maxHeartbeats 4000000 in
theorem mm_callG {n F : Nat} {t : mm_T} {ins : Instr} {as rest : List Value} {h' : mm_H} {rv : Option Value} (C : mm_Ctx p s m args meth c D B M) (IH : mm_Sim l D B n) (hF : F + 1 ≤ R.frames ∧ 40 * (F + 1) ≤ R.locals) (hat : mm_at M pc = some ins) (hc : mm_Call M ins st h t as rest) (hrun : mm_run n none F t 0 (lv_args 0 as) [] h = some (rv, h')) (hr : cells + (h'.1 - h.1) ≤ R.cells ∧ slots + (h'.2.1 - h.2.1) ≤ R.slots)
    (kk : mm_G p l e R s m args below meth c Q D B M (pc + 3) ls (rv.toList ++ rest) h' (cells + (h'.1 - h.1)) (slots + (h'.2.1 - h.2.1))) : mm_G p l e R s m args below meth c Q D B M pc ls st h cells slots := fun H locs lsA hP hS hl => by
  obtain ⟨len, hd, hlen⟩ := mm_at_dec hat
  obtain ⟨rfl, hsum, has, i, k, hm, hcase⟩ := hc
  have he := mm_mth_spec hm
  have hco := mm_mthL_code _ he
  obtain ⟨o1, o2, o3⟩ := mm_mthL_ok1 _ he
  have p2 := mm_mthL_ok2 _ he
  obtain ⟨w1, w2⟩ := mm_mthL_ok3 _ he
  obtain ⟨hx, hb, hml, hown, hts, hWF, hnm, hB1, hB2⟩ := id C
  have hM := mm_met hB1 IH o1 o2 has hrun
  have hsum' : ((rest.map (mm_sh B)).map fun v => v.category).sum ≤ 8 := by
    rw [List.map_map]
    have e9 : ((fun v : Value => v.category) ∘ mm_sh B) = fun v => v.category := funext fun v => mm_sh_cat B v
    rw [e9]
    exact hsum
  have hroom : (mm_rm F (h'.1 - h.1) (h'.2.1 - h.2.1)).frames + 1 ≤ R.frames ∧ 8 + (t.2.2.2.1 + 11) + (mm_rm F (h'.1 - h.1) (h'.2.1 - h.2.1)).locals ≤ R.locals := ⟨hF.1, by
    have o3' : t.2.2.2.1 ≤ 20 := o3
    show 8 + (t.2.2.2.1 + 11) + 40 * F ≤ R.locals
    omega⟩
  have fin : ∀ a : Array Value, va_Run p l e R s m args below meth c H locs cells slots (h'.1 - h.1) (h'.2.1 - h.2.1) (F0 m pc lsA ((as.reverse ++ rest).map (mm_sh B))) (rest.map (mm_sh B)) (mm_Qc D B rv h' a) (fun q => B.2 ≤ q) → W p l e R s m args below meth c H locs cells slots Q (F0 m pc lsA ((as.reverse ++ rest).map (mm_sh B))) := fun a hrn => by
    refine mm_callK hrn hS (fun H1 locs1 hP1 hS1 => ?_)
    have k9 := kk H1 locs1 lsA hP1 hS1 hl
    rw [List.map_append] at k9
    have e9 : (rv.map (mm_sh B)).toList = rv.toList.map (mm_sh B) := by cases rv <;> rfl
    rw [e9]
    exact k9
  have hPc : ∀ U : State, U.heap = H → s.WarmedH U.vm → mm_Pc D B as h (as.map (mm_sh B)).toArray U := fun U hU hW => ⟨rfl, by rw [hU]; exact hP, hWF.warm hW⟩
  have hmono := mm_run_mono hrun
  have hcellb : cells + (h'.1 - h.1) ≤ R.cells ∧ slots + (h'.2.1 - h.2.1) ≤ R.slots := hr
  rcases hcase with ⟨rfl, rfl, hlen2⟩ | ⟨hk, a, As, fs, rfl, hlen2, hca⟩
  · obtain rfl : 3 = len := hlen.resolve_left (by simp [mm_ln])
    have w2' : Cond.methodLink (mm_cn M.1) i t.2.1 ∈ mm_Ws := w2.resolve_left (by simp)
    have cb := callB_of (R := R) (args := args) (own := mm_cn M.1) (index := i) (rm := mm_rm F (h'.1 - h.1) (h'.2.1 - h.2.1)) t.2.2.2.2.2 hts (mm_good hco) rfl rfl rfl (hts _ w1) (hts _ w2') p2 hroom
    exact fin _ (va_runS ⟨hx, hb, hml, hown, hts⟩ hM ⟨cb, hts _ (mm_mthL_ok5 _ he rfl)⟩ ⟨mm_blind, hPc⟩ rfl (by rw [List.length_map]; exact hlen2) hl.1 (by rw [List.map_append, List.map_reverse]) (lv_room hsum') hd hcellb)
  · have hin := (mm_mthL_ok6 _ he)
    have hk0 : ¬ k = 0 := by rcases hk with ⟨q, -⟩ | ⟨q | q, -⟩ <;> omega
    have hin2 : t.1 < 5 ∧ Cond.instanceMethod t.2.1 ∈ mm_Ws := hin.resolve_left hk0
    have hstk : ((Value.ref a :: As).reverse ++ rest).map (mm_sh B) = (As.map (mm_sh B)).reverse ++ Value.ref (mm_am B a) :: rest.map (mm_sh B) := by
      rw [List.reverse_cons, List.append_assoc, List.map_append, List.map_reverse]
      rfl
    have hcell := mm_cellO hin2.1 (hP.2.2 a _ hca).2.2
    rcases hk with ⟨rfl, rfl⟩ | ⟨hk, rfl⟩
    · obtain rfl : 3 = len := hlen.resolve_left (by simp [mm_ln])
      have w2' : Cond.methodLink (mm_cn M.1) i t.2.1 ∈ mm_Ws := w2.resolve_left (by simp)
      have cb := callB_of (R := R) (args := args) (own := mm_cn M.1) (index := i) (rm := mm_rm F (h'.1 - h.1) (h'.2.1 - h.2.1)) t.2.2.2.2.2 hts (mm_good hco) rfl rfl rfl (hts _ w1) (hts _ w2') p2 hroom
      obtain ⟨-, cell, g1, g2, g3, -⟩ := hcell
      have hcls := (hWF.1.1 t.1 _ (mm_cl_at t.1 hin2.1)).2
      exact fin _ (va_runV (C := mm_cn t.1) (b := mm_am B a) (As := As.map (mm_sh B)) ⟨hx, hb, hml, hown, hts⟩ hM ⟨cb, hts _ hin2.2, hts _ (mm_mthL_ok7 _ he rfl)⟩ ⟨mm_blind, ⟨cell, g1, by rw [g3]; rfl, by rw [g2]; exact hcls.1⟩, hPc⟩ rfl (by rw [List.length_map]; exact hlen2) hl.1 hstk (lv_room hsum') hd hcellb)
    · obtain rfl : 3 = len := hlen.resolve_left (by simp [mm_ln])
      obtain ⟨n1, n2⟩ := mm_mthL_ok8 _ he hk
      have n2' : t.2.2.2.2.1 = none := by simpa using n2
      by_cases hk3 : k = 3
      · have w3 := mm_mthL_ok4 _ he hk3
        have hw3 := hWF.2.2.2.2 _ w3
        have cb := va_cnB (R := R) (args := args) (own := mm_cn M.1) (index := i) (host := RX3) (rm := mm_rm F (h'.1 - h.1) (h'.2.1 - h.2.1)) t.2.2.2.2.2 hts (mm_good hco) rfl rfl rfl hw3 (hts _ w1) p2 hroom
        rw [n2'] at cb
        exact fin _ (va_runIN (b := mm_am B a) (As := As.map (mm_sh B)) ⟨hx, hb, hml, hown, hts⟩ hM ⟨cb, n1, hts _ hin2.2⟩ ⟨mm_blind, hPc⟩ rfl (by rw [List.length_map]; exact hlen2) hl.1 hstk (lv_room hsum') hd hcellb)
      · have w2' : Cond.methodLink (mm_cn M.1) i t.2.1 ∈ mm_Ws := w2.resolve_left hk3
        have cb := callB_of (R := R) (args := args) (own := mm_cn M.1) (index := i) (rm := mm_rm F (h'.1 - h.1) (h'.2.1 - h.2.1)) t.2.2.2.2.2 hts (mm_good hco) rfl rfl rfl (hts _ w1) (hts _ w2') p2 hroom
        rw [n2'] at cb
        exact fin _ (va_runI (b := mm_am B a) (As := As.map (mm_sh B)) ⟨hx, hb, hml, hown, hts⟩ hM ⟨cb, n1, hts _ hin2.2⟩ ⟨mm_blind, hPc⟩ rfl (by rw [List.length_map]; exact hlen2) hl.1 hstk (lv_room hsum') hd hcellb)
end MG
set_option maxHeartbeats 4000000 in
/-- THE SIMULATION -/
theorem mm_sim (l : Launch) (D : va_G) (B : Nat × Nat) : ∀ n : Nat, mm_Sim l D B n := by
  intro n
  induction n with
  | zero => intro p e R s m args below meth c Q M sc F pc ls st h h' r cells slots C hsc hF hrun; cases hrun
  | succ n IH =>
    intro p e R s m args below meth c Q M sc F pc ls st h h' r cells slots C hsc hF hrun hr K
    unfold mm_run at hrun
    split at hrun
    · cases hrun
    · rename_i ins hat
      split at hrun
      · cases hrun
      · rename_i pc1 ls1 st1 h1 hq
        have m1 := mm_x_mono hq
        have m2 := mm_run_mono hrun
        dsimp only at m1
        refine mm_sound C hsc hF hat hq (by dsimp only; omega) (fun c' s' ec es => ?_)
        dsimp only at ec es ⊢
        refine IH p e R s m args below meth c Q M sc F pc1 ls1 st1 h1 h' r c' s' C hsc hF hrun (by omega) (fun pcr H' locs' lsA hR hP hS => ?_)
        have e1 : c' + (h'.1 - h1.1) = cells + (h'.1 - h.1) := by omega
        have e2 : s' + (h'.2.1 - h1.2.1) = slots + (h'.2.1 - h.2.1) := by omega
        rw [e1, e2]
        exact K pcr H' locs' lsA hR hP hS
      · rename_i t as rest hq
        split at hrun
        · cases hrun
        · rename_i F'
          split at hrun
          · cases hrun
          · rename_i r1 h1 hc
            have m1 := mm_run_mono hc
            have m2 := mm_run_mono hrun
            refine mm_callG C IH hF hat (mm_x_call hq) hc (by omega) ?_
            refine IH p e R s m args below meth c Q M sc (F' + 1) (pc + 3) ls (r1.toList ++ rest) h1 h' r _ _ C hsc hF hrun (by omega) (fun pcr H' locs' lsA hR hP hS => ?_)
            have e1 : cells + (h1.1 - h.1) + (h'.1 - h1.1) = cells + (h'.1 - h.1) := by omega
            have e2 : slots + (h1.2.1 - h.2.1) + (h'.2.1 - h1.2.1) = slots + (h'.2.1 - h.2.1) := by omega
            rw [e1, e2]
            exact K pcr H' locs' lsA hR hP hS
      · rename_i hq
        obtain ⟨hR, rfl⟩ := mm_x_ret hat hq
        cases hrun
        intro H locs lsA hP hS hl
        have k9 := K pc H locs lsA hR hP hS
        rw [Nat.sub_self, Nat.sub_self, Nat.add_zero, Nat.add_zero] at k9
        exact k9
end
section
-- ===== end of PART A; then your names; then what follows =====
/-! THE CLAIM OUT OF ONE WALK OF THE LAW'S BODY. Your part is whole_start (and what it stands on); all else here is the same for every law, but numbers. -/
def R_law : String := "BellHouseLaw"
def lw_P (b : Addr) (xs : List Int32) (args : Array Value) (s : State) : Prop := args = #[.ref b] ∧ s.IntsAt b xs ∧ xs.length ≤ 2048 ∧ (Jvm.Cond.and given_1 narrow_1).before args s = true
def lw_Q (_ : Array Value) (s : State) (o : Outcome) (t : State) : Prop := o = .returned (some (.int 1)) ∧ Framed s o t [] 600000 7302250
def lw_Z (below : List Frame) (a : Array Value) (s : State) : State → Prop := fun t => ∃ o, t.status = .running ∧ Ended t below o ∧ lw_Q a s o t
/-- the law's own end, with 1 on the stack, nothing written that was there before, its room as the claim has it -/
theorem lw_ret {p : Program} {l : Launch} {e : Env} {s : State} {m : MethodId} {below : List Frame} {meth : Method} {c : Code} {b : Nat} (hx : p.tables.exec = Jvm.exec) (hb : c.code = code) (hr : meth.sig.returnType = ret) (hlocks : meth.locks = false) {pc : Nat} {H : Heap} {ls : Array Slot} (hdg : decode code pc = .ok (.ireturn, 1)) : W p l e room_1 s m #[Value.ref b] below meth c H [] 600000 7302250 (lw_Z below #[Value.ref b] s) (F0 m pc ls [.int 1]) := by
  intro T hT X
  obtain ⟨fs, hret, hrun, hended, hW, hframe⟩ := X.leave (v := some (.int 1)) (hlocks := hlocks) (fun h => by rw [hr] at h; cases h)
  have hmeth' : T.vm.method? m = some meth := X.method'
  refine ⟨T.setFrames fs, ?_, .returned (some (.int 1)), hrun, hended, rfl, ⟨_, rfl⟩, hW, hframe⟩
  jvm_step X.here [X.here.top, hx, hb, hdg, hmeth', hr, ret, narrow_b1]
  (try refine ⟨rfl, ?_⟩); (try refine ⟨rfl, ?_⟩)
  first | (intro acts; rw [hret _ acts rfl rfl rfl]) | rw [hret _ _ rfl rfl rfl]
  exact Steps.refl _
/-- what holds at the law's entry: the machine, the code, the tables' words (any of lw_tbl by 'hts w (by decide +kernel)'), the script of L ints xs at the cell b, what the Statement gives of the start (any of its parts by flat_of_before) -/
def lw_At (p : Program) (s : State) (m : MethodId) (meth : Method) (c : Code) (b L : Nat) (xs : Nat → Int32) : Prop :=
  p.tables.exec = Jvm.exec ∧ c.code = code ∧ meth.sig.returnType = ret ∧ c.maxLocals = 4 ∧ s.vm.findClass R_law = some m.cls ∧ (∀ w ∈ lw_tbl, w.before #[Value.ref b] s = true) ∧ va_X b L xs s s.heap ∧ b < s.heap.size ∧ meth.locks = false ∧ (Jvm.Cond.and given_1 narrow_1).before #[Value.ref b] s = true

/-- the tables' classes, at the law's start -/
theorem mm_world {s : State} {args : Array Value} (hts : ∀ w ∈ lw_tbl, w.before args s = true) : ∃ D : va_G, mm_WF D s := by
  have ht2 : ∀ w ∈ mm_Ws, w.before args s = true := fun w hw => hts w (List.mem_filter.mp hw).1
  obtain ⟨c0, i0, hk0⟩ := u_known (C := RX0) (T := TX0) (N := 7) (n := 7) ht2 (mm_lay_ok 0 (by decide)) (hts (.instantiable RX0 7) (by decide +kernel))
  obtain ⟨c1, i1, hk1⟩ := u_known (C := RX1) (T := TX1) (N := 3) (n := 3) ht2 (mm_lay_ok 1 (by decide)) (hts (.instantiable RX1 3) (by decide +kernel))
  obtain ⟨c2, i2, hk2⟩ := u_known (C := RX2) (T := TX2) (N := 4) (n := 4) ht2 (mm_lay_ok 2 (by decide)) (hts (.instantiable RX2 4) (by decide +kernel))
  obtain ⟨c3, i3, hk3⟩ := u_known (C := RX3) (T := TX3) (N := 17) (n := 17) ht2 (mm_lay_ok 3 (by decide)) (hts (.instantiable RX3 17) (by decide +kernel))
  obtain ⟨c4, i4, hk4⟩ := u_known (C := RX4) (T := TX4) (N := 31) (n := 31) ht2 (mm_lay_ok 4 (by decide)) (hts (.instantiable RX4 31) (by decide +kernel))
  obtain ⟨c5, k5, m5, f5, g5, e5⟩ := Cond.arrayClass_spec (hts (.arrayClass .int) (by decide +kernel))
  obtain ⟨c6, k6, m6, f6, g6, e6⟩ := Cond.arrayClass_spec (hts (.arrayClass .long) (by decide +kernel))
  have a7 := hts (.arrayOver (.object RX0)) (by decide +kernel)
  have a8 := hts (.arrayOver (.object RX1)) (by decide +kernel)
  have a9 := hts (.arrayOver (.array .int)) (by decide +kernel)
  obtain ⟨m7, c7, k7, p7, -, g7, e7, f7⟩ := Cond.arrayOver_spec a7
  obtain ⟨m8, c8, k8, p8, -, g8, e8, f8⟩ := Cond.arrayOver_spec a8
  obtain ⟨m9, c9, k9, p9, -, g9, e9, f9⟩ := arrayOverA_spec a9
  have h95 : m9 = c5 := Option.some.inj (p9.symm.trans f5)
  subst h95
  refine ⟨(fun k => match k with | 0 => c0 | 1 => c1 | 2 => c2 | 3 => c3 | 4 => c4 | 5 => m9 | 6 => c6 | 7 => c7 | 8 => c8 | _ => c9, fun k => match k with | 0 => i0 | 1 => i1 | 2 => i2 | 3 => i3 | _ => i4), ⟨?_, ?_⟩, va_AO.of a7, va_AO.of a8, ⟨⟨k9, g9, e9⟩, k5, m5, g5, e5⟩, ?_⟩
  · intro k q hq
    match k, hq with
    | 0, hq => cases hq; exact hk0
    | 1, hq => cases hq; exact hk1
    | 2, hq => cases hq; exact hk2
    | 3, hq => cases hq; exact hk3
    | 4, hq => cases hq; exact hk4
    | k + 5, hq => simp [vwCl] at hq
  · intro k q hq
    match k, hq with
    | 0, hq => cases hq; exact ⟨fun n z => ⟨(fun k h => by cases h), k5, g5, m5, e5⟩, f5⟩
    | 1, hq => cases hq; exact ⟨fun n z => ⟨(fun k h => by cases h), k6, g6, m6, e6⟩, f6⟩
    | 2, hq => cases hq; exact ⟨fun n z => ⟨(fun k h => by cases h), k7, g7, m7, e7⟩, k7, m7, g7, e7, p7, f7⟩
    | 3, hq => cases hq; exact ⟨fun n z => ⟨(fun k h => by cases h), k8, g8, m8, e8⟩, k8, m8, g8, e8, p8, f8⟩
    | 4, hq => cases hq; exact ⟨fun n z => ⟨(fun k h => by cases h), k9, g9, m9, e9⟩, f9⟩
    | k + 5, hq => simp [mm_tys] at hq
  · intro e he
    simp only [mm_nestL, List.mem_cons, List.not_mem_nil, or_false] at he
    rcases he with rfl | rfl
    · exact va_Nw.of rfl (hts (.methodLinkNest RX3 21 yX2_init RX3) (by decide +kernel))
    · exact va_Nw.of rfl (hts (.methodLinkNest RX3 40 yX1_init RX3) (by decide +kernel))
def mm_h0 : mm_H := (1, 0, fun _ => none)
/-- what is left: the law's run of the mini-machine ends with 1, within the room -/
def mm_Law : Prop := ∀ xs : List Int32, xs.length ≤ 2048 → mW (some xs) 2048 mL_law 0 [(0, .ref 0)] [] mm_h0 (fun r h => r = some (.int 1) ∧ h.1 ≤ 600001 ∧ h.2.1 ≤ 7302250)
theorem mm_start (hpure : mm_Law) {p : Program} {e : Env} {s : State} {m : MethodId} {below : List Frame} {meth : Method} {c : Code} (l : Launch) {b L : Nat} {xs : Nat → Int32} (hL : L ≤ 2048) (C0 : lw_At p s m meth c b L xs) : W p l e room_1 s m #[Value.ref b] below meth c s.heap [] 0 0 (lw_Z below #[Value.ref b] s) (entryFrame m ([Value.ref b] : List Value).toArray 4) := by
  obtain ⟨hx, hb, hr, hml, hown, hts, hX, hbl, hlocks, hgv⟩ := C0
  obtain ⟨D, hWF⟩ := mm_world hts
  obtain ⟨n, r, h', hrun, rfl, hc, hs⟩ := hpure ((List.range L).map xs) (by rw [List.length_map, List.length_range]; exact hL)
  have hX2 : va_X b ((List.range L).map xs).length (fun j => ((List.range L).map xs).getD j 0) s s.heap := by
    obtain ⟨scr, g1, g2, g3, g4, g5⟩ := hX
    refine ⟨scr, g1, g2, g3, by rw [List.length_map, List.length_range]; exact g4, fun j hj => ?_⟩
    rw [List.length_map, List.length_range] at hj
    rw [g5 j hj]
    simp [List.getD, hj]
  have C : mm_Ctx p s m #[Value.ref b] meth c D (b, s.heap.size) mL_law := ⟨hx, hb, hml, hown, fun w hw => hts w (List.mem_filter.mp hw).1, hWF, fun h => absurd h (by decide), hbl, Nat.le_refl _⟩
  have hl := lv_entry ([.ref b]) (n := 4) (Nat.le_of_ble_eq_true rfl)
  rw [lg_entry_eq]
  refine mm_sim l D (b, s.heap.size) n p e room_1 s m #[Value.ref b] below meth c (lw_Z below #[Value.ref b] s) mL_law (some ((List.range L).map xs)) 2048 0 [(0, .ref 0)] [] mm_h0 h' (some (.int 1)) 0 0 C (fun ys hys => ?_) ⟨by show 2048 ≤ 2048; omega, by show 40 * 2048 ≤ 84000; omega⟩ hrun ⟨by show 0 + (h'.1 - 1) ≤ 600000; omega, by show 0 + (h'.2.1 - 0) ≤ 7302250; omega⟩ (fun pcr H' locs' lsA hR hP hS => ?_) s.heap [] _ ⟨Nat.le_refl _, rfl, fun a c h => by cases h⟩ va_S.rf hl
  · cases hys
    exact hX2
  · have hd : decode code pcr = .ok (.ireturn, 1) := by
      rcases hR with ⟨v, -, hd, -⟩ | ⟨v, h9, -⟩ | ⟨h9, -⟩
      · exact hd
      · cases h9
      · cases h9
    refine va_forget (fun q hq => hS.2.2 q hq) ?_
    refine W.widen (k := 600000) (n := 7302250) (by show 0 + (h'.1 - 1) ≤ 600000; omega) (by show 0 + (h'.2.1 - 0) ≤ 7302250; omega) ?_
    exact lw_ret hx hb hr hlocks hd
end
section
/-! WALKING THE MINI-MACHINE: a rule an instruction -/
theorem mm_run_up : ∀ {n : Nat} {sc : Option (List Int32)} {F pc : Nat} {M : mm_T} {ls : mm_L} {st : List Value} {h : mm_H} {q : Option Value × mm_H} (k : Nat), mm_run n sc F M pc ls st h = some q → mm_run (n + k) sc F M pc ls st h = some q := by
  intro n
  induction n with
  | zero => intro sc F pc M ls st h q k hx; cases hx
  | succ n ih =>
    intro sc F pc M ls st h q k hx
    rw [show n + 1 + k = (n + k) + 1 by omega]
    unfold mm_run at hx ⊢
    cases hat : mm_at M pc with
    | none => rw [hat] at hx; cases hx
    | some ins =>
      rw [hat] at hx
      dsimp only at hx ⊢
      cases hq : mm_x sc F M ins pc ls st h with
      | none => rw [hq] at hx; cases hx
      | some w =>
        rw [hq] at hx
        match w, hx with
        | .inl (pc', ls', st', h'), hx => exact ih k hx
        | .inr (.inl (t, as, rest)), hx =>
          dsimp only at hx ⊢
          cases F with
          | zero => cases hx
          | succ F' =>
            dsimp only at hx ⊢
            cases hc : mm_run n none F' t 0 (lv_args 0 as) [] h with
            | none => rw [hc] at hx; cases hx
            | some w =>
              rw [hc] at hx
              rw [ih k hc]
              exact ih k hx
        | .inr (.inr r), hx => exact hx
theorem mm_run_le {n n' : Nat} {sc : Option (List Int32)} {F pc : Nat} {M : mm_T} {ls : mm_L} {st : List Value} {h : mm_H} {q : Option Value × mm_H} (hn : n ≤ n') (hx : mm_run n sc F M pc ls st h = some q) : mm_run n' sc F M pc ls st h = some q := by
  have := mm_run_up (n' - n) hx
  rwa [show n + (n' - n) = n' by omega] at this
section MW
variable {sc : Option (List Int32)} {F pc : Nat} {M : mm_T} {ls : mm_L} {st r : List Value} {h : mm_H} {P : Option Value → mm_H → Prop}
theorem mW.imp {P' : Option Value → mm_H → Prop} (hW : mW sc F M pc ls st h P) (hi : ∀ r h', P r h' → P' r h') : mW sc F M pc ls st h P' := by
  obtain ⟨n, r, h', a, b⟩ := hW
  exact ⟨n, r, h', a, hi r h' b⟩
theorem mW.step {ins : Instr} {pc' : Nat} {ls' : mm_L} {st' : List Value} {h' : mm_H} (ha : mm_at M pc = some ins) (hx : mm_x sc F M ins pc ls st h = some (.inl (pc', ls', st', h'))) (k : mW sc F M pc' ls' st' h' P) : mW sc F M pc ls st h P := by
  obtain ⟨n, r, h2, a, b⟩ := k
  refine ⟨n + 1, r, h2, ?_, b⟩
  unfold mm_run
  rw [ha]
  dsimp only
  rw [hx]
  exact a
theorem mW.call {ins : Instr} {t : mm_T} {as rest : List Value} {P1 : Option Value → mm_H → Prop} (ha : mm_at M pc = some ins) (hx : mm_x sc (F + 1) M ins pc ls st h = some (.inr (.inl (t, as, rest)))) (hc : mW none F t 0 (lv_args 0 as) [] h P1) (k : ∀ r h', P1 r h' → mW sc (F + 1) M (pc + 3) ls (r.toList ++ rest) h' P) : mW sc (F + 1) M pc ls st h P := by
  obtain ⟨n1, r1, h1, a1, b1⟩ := hc
  obtain ⟨n2, r2, h2, a2, b2⟩ := k r1 h1 b1
  refine ⟨n1 + n2 + 1, r2, h2, ?_, b2⟩
  unfold mm_run
  rw [ha]
  dsimp only
  rw [hx]
  dsimp only
  rw [mm_run_le (Nat.le_add_right n1 n2) a1]
  exact mm_run_le (Nat.le_add_left n2 n1) a2
theorem mW.ret {ins : Instr} {rv : Option Value} (ha : mm_at M pc = some ins) (hx : mm_x sc F M ins pc ls st h = some (.inr (.inr rv))) (k : P rv h) : mW sc F M pc ls st h P := by
  refine ⟨1, rv, h, ?_, k⟩
  unfold mm_run
  rw [ha]
  dsimp only
  rw [hx]
theorem w_iconst {n : Int} {v : Int32} {q : Nat} (ha : mm_at M pc = some (.iconst n)) (hv : Int32.ofInt n = v) (hq : pc + 1 = q) (k : mW sc F M q ls (.int v :: st) h P) : mW sc F M pc ls st h P := mW.step ha rfl (by subst hv; subst hq; exact k)
theorem w_bipush {n : Int} {v : Int32} {q : Nat} (ha : mm_at M pc = some (.bipush n)) (hv : (Int8.ofInt n).toInt32 = v) (hq : pc + 2 = q) (k : mW sc F M q ls (.int v :: st) h P) : mW sc F M pc ls st h P := mW.step ha rfl (by subst hv; subst hq; exact k)
theorem w_sipush {n : Int} {v : Int32} {q : Nat} (ha : mm_at M pc = some (.sipush n)) (hv : (Int16.ofInt n).toInt32 = v) (hq : pc + 3 = q) (k : mW sc F M q ls (.int v :: st) h P) : mW sc F M pc ls st h P := mW.step ha rfl (by subst hv; subst hq; exact k)
theorem w_lconst {n : Fin 2} {v : Int64} {q : Nat} (ha : mm_at M pc = some (.lconst n)) (hv : Int64.ofNat (n : Nat) = v) (hq : pc + 1 = q) (k : mW sc F M q ls (.long v :: st) h P) : mW sc F M pc ls st h P := mW.step ha rfl (by subst hv; subst hq; exact k)
theorem w_null {q : Nat} (ha : mm_at M pc = some .aconst_null) (hq : pc + 1 = q) (k : mW sc F M q ls (.null :: st) h P) : mW sc F M pc ls st h P := mW.step ha rfl (by subst hq; exact k)
theorem w_ldc {i : Nat} {v : Int64} {q : Nat} (ha : mm_at M pc = some (.ldc2_w i)) (hv : mm_ldc M.1 i = some v) (hq : pc + 3 = q) (k : mW sc F M q ls (.long v :: st) h P) : mW sc F M pc ls st h P := mW.step ha (by simp only [mm_x, hv]; rfl) (by subst hq; exact k)
theorem w_iload_n {i : Fin 4} {v : Int32} {q : Nat} (ha : mm_at M pc = some (.iload_n i)) (hv : mm_lk ls i = some (.int v)) (hq : pc + 1 = q) (k : mW sc F M q ls (.int v :: st) h P) : mW sc F M pc ls st h P := mW.step ha (by simp only [mm_x, mm_ld, hv]; rfl) (by subst hq; exact k)
theorem w_iload {i : Nat} {v : Int32} {q : Nat} (ha : mm_at M pc = some (.iload i)) (hv : mm_lk ls i = some (.int v)) (hq : pc + 2 = q) (k : mW sc F M q ls (.int v :: st) h P) : mW sc F M pc ls st h P := mW.step ha (by simp only [mm_x, mm_ld, hv]; rfl) (by subst hq; exact k)
theorem w_lload_n {i : Fin 4} {v : Int64} {q : Nat} (ha : mm_at M pc = some (.lload_n i)) (hv : mm_lk ls i = some (.long v)) (hq : pc + 1 = q) (k : mW sc F M q ls (.long v :: st) h P) : mW sc F M pc ls st h P := mW.step ha (by simp only [mm_x, mm_ld, hv]; rfl) (by subst hq; exact k)
theorem w_lload {i : Nat} {v : Int64} {q : Nat} (ha : mm_at M pc = some (.lload i)) (hv : mm_lk ls i = some (.long v)) (hq : pc + 2 = q) (k : mW sc F M q ls (.long v :: st) h P) : mW sc F M pc ls st h P := mW.step ha (by simp only [mm_x, mm_ld, hv]; rfl) (by subst hq; exact k)
theorem w_aload_n {i : Fin 4} {v : Nat} {q : Nat} (ha : mm_at M pc = some (.aload_n i)) (hv : mm_lk ls i = some (.ref v)) (hq : pc + 1 = q) (k : mW sc F M q ls (.ref v :: st) h P) : mW sc F M pc ls st h P := mW.step ha (by simp only [mm_x, mm_ld, hv]; rfl) (by subst hq; exact k)
theorem w_aload {i : Nat} {v : Nat} {q : Nat} (ha : mm_at M pc = some (.aload i)) (hv : mm_lk ls i = some (.ref v)) (hq : pc + 2 = q) (k : mW sc F M q ls (.ref v :: st) h P) : mW sc F M pc ls st h P := mW.step ha (by simp only [mm_x, mm_ld, hv]; rfl) (by subst hq; exact k)
theorem w_aload_nQ {i : Fin 4} {v : Option Nat} {q : Nat} (ha : mm_at M pc = some (.aload_n i)) (hv : mm_lk ls i = some (va_rf v)) (hq : pc + 1 = q) (k : mW sc F M q ls (va_rf v :: st) h P) : mW sc F M pc ls st h P := by
  subst hq
  cases v with
  | none => exact mW.step (st' := .null :: st) ha (by simp only [va_rf] at hv; simp only [mm_x, mm_ld, hv]) k
  | some a => exact mW.step (st' := .ref a :: st) ha (by simp only [va_rf] at hv; simp only [mm_x, mm_ld, hv]) k
theorem w_aloadQ {i : Nat} {v : Option Nat} {q : Nat} (ha : mm_at M pc = some (.aload i)) (hv : mm_lk ls i = some (va_rf v)) (hq : pc + 2 = q) (k : mW sc F M q ls (va_rf v :: st) h P) : mW sc F M pc ls st h P := by
  subst hq
  cases v with
  | none => exact mW.step (st' := .null :: st) ha (by simp only [va_rf] at hv; simp only [mm_x, mm_ld, hv]) k
  | some a => exact mW.step (st' := .ref a :: st) ha (by simp only [va_rf] at hv; simp only [mm_x, mm_ld, hv]) k
theorem w_istore_n {i : Fin 4} {v : Int32} {q : Nat} {ls' : mm_L} (ha : mm_at M pc = some (.istore_n i)) (hi : (i : Nat) < M.2.2.2.1) (hl : mm_st1 ls i (.int v) = ls') (hq : pc + 1 = q) (k : mW sc F M q ls' r h P) : mW sc F M pc ls (.int v :: r) h P := mW.step ha (by simp only [mm_x, mm_sto]; rw [if_pos hi]) (by subst hq; subst hl; exact k)
theorem w_istore {i : Nat} {v : Int32} {q : Nat} {ls' : mm_L} (ha : mm_at M pc = some (.istore i)) (hi : i < M.2.2.2.1) (hl : mm_st1 ls i (.int v) = ls') (hq : pc + 2 = q) (k : mW sc F M q ls' r h P) : mW sc F M pc ls (.int v :: r) h P := mW.step ha (by simp only [mm_x, mm_sto]; rw [if_pos hi]) (by subst hq; subst hl; exact k)
theorem w_lstore_n {i : Fin 4} {v : Int64} {q : Nat} {ls' : mm_L} (ha : mm_at M pc = some (.lstore_n i)) (hi : (i : Nat) + 1 < M.2.2.2.1) (hl : mm_st2 ls i (.long v) = ls') (hq : pc + 1 = q) (k : mW sc F M q ls' r h P) : mW sc F M pc ls (.long v :: r) h P := mW.step ha (by simp only [mm_x, mm_sto]; rw [if_pos hi]) (by subst hq; subst hl; exact k)
theorem w_lstore {i : Nat} {v : Int64} {q : Nat} {ls' : mm_L} (ha : mm_at M pc = some (.lstore i)) (hi : i + 1 < M.2.2.2.1) (hl : mm_st2 ls i (.long v) = ls') (hq : pc + 2 = q) (k : mW sc F M q ls' r h P) : mW sc F M pc ls (.long v :: r) h P := mW.step ha (by simp only [mm_x, mm_sto]; rw [if_pos hi]) (by subst hq; subst hl; exact k)
theorem w_astore_n {i : Fin 4} {v : Nat} {q : Nat} {ls' : mm_L} (ha : mm_at M pc = some (.astore_n i)) (hi : (i : Nat) < M.2.2.2.1) (hl : mm_st1 ls i (.ref v) = ls') (hq : pc + 1 = q) (k : mW sc F M q ls' r h P) : mW sc F M pc ls (.ref v :: r) h P := mW.step ha (by simp only [mm_x, mm_sto]; rw [if_pos hi]) (by subst hq; subst hl; exact k)
theorem w_astore {i : Nat} {v : Nat} {q : Nat} {ls' : mm_L} (ha : mm_at M pc = some (.astore i)) (hi : i < M.2.2.2.1) (hl : mm_st1 ls i (.ref v) = ls') (hq : pc + 2 = q) (k : mW sc F M q ls' r h P) : mW sc F M pc ls (.ref v :: r) h P := mW.step ha (by simp only [mm_x, mm_sto]; rw [if_pos hi]) (by subst hq; subst hl; exact k)
theorem w_astoreQ {i : Nat} {v : Option Nat} {q : Nat} {ls' : mm_L} (ha : mm_at M pc = some (.astore i)) (hi : i < M.2.2.2.1) (hl : mm_st1 ls i (va_rf v) = ls') (hq : pc + 2 = q) (k : mW sc F M q ls' r h P) : mW sc F M pc ls (va_rf v :: r) h P := by
  subst hl; subst hq
  cases v
  · exact mW.step (st' := r) ha (by simp only [mm_x, mm_sto, va_rf]; rw [if_pos hi]) k
  · exact mW.step (st' := r) ha (by simp only [mm_x, mm_sto, va_rf]; rw [if_pos hi]) k
theorem w_iinc {i : Nat} {n : Int} {x v : Int32} {q : Nat} {ls' : mm_L} (ha : mm_at M pc = some (.iinc i n)) (hx : mm_lk ls i = some (.int x)) (hv : x + Int32.ofInt n = v) (hi : i < M.2.2.2.1) (hl : mm_st1 ls i (.int v) = ls') (hq : pc + 3 = q) (k : mW sc F M q ls' st h P) : mW sc F M pc ls st h P := mW.step ha (by simp only [mm_x, hx]; rw [if_pos hi]) (by subst hq; subst hv; subst hl; exact k)
theorem w_iadd {x y : Int32} {q : Nat} (ha : mm_at M pc = some .iadd) (hq : pc + 1 = q) (k : mW sc F M q ls (.int (x + y) :: r) h P) : mW sc F M pc ls (.int y :: .int x :: r) h P := mW.step ha rfl (by subst hq; exact k)
theorem w_isub {x y : Int32} {q : Nat} (ha : mm_at M pc = some .isub) (hq : pc + 1 = q) (k : mW sc F M q ls (.int (x - y) :: r) h P) : mW sc F M pc ls (.int y :: .int x :: r) h P := mW.step ha rfl (by subst hq; exact k)
theorem w_imul {x y : Int32} {q : Nat} (ha : mm_at M pc = some .imul) (hq : pc + 1 = q) (k : mW sc F M q ls (.int (x * y) :: r) h P) : mW sc F M pc ls (.int y :: .int x :: r) h P := mW.step ha rfl (by subst hq; exact k)
theorem w_iand {x y : Int32} {q : Nat} (ha : mm_at M pc = some .iand) (hq : pc + 1 = q) (k : mW sc F M q ls (.int (x &&& y) :: r) h P) : mW sc F M pc ls (.int y :: .int x :: r) h P := mW.step ha rfl (by subst hq; exact k)
theorem w_irem {x y : Int32} {q : Nat} (ha : mm_at M pc = some .irem) (hy : ¬ y = 0) (hq : pc + 1 = q) (k : mW sc F M q ls (.int (x - x / y * y) :: r) h P) : mW sc F M pc ls (.int y :: .int x :: r) h P := mW.step ha (by simp only [mm_x, mm_bi]; rw [if_neg hy]) (by subst hq; exact k)
theorem w_ladd {x y : Int64} {q : Nat} (ha : mm_at M pc = some .ladd) (hq : pc + 1 = q) (k : mW sc F M q ls (.long (x + y) :: r) h P) : mW sc F M pc ls (.long y :: .long x :: r) h P := mW.step ha rfl (by subst hq; exact k)
theorem w_land {x y : Int64} {q : Nat} (ha : mm_at M pc = some .land) (hq : pc + 1 = q) (k : mW sc F M q ls (.long (x &&& y) :: r) h P) : mW sc F M pc ls (.long y :: .long x :: r) h P := mW.step ha rfl (by subst hq; exact k)
theorem w_lor {x y : Int64} {q : Nat} (ha : mm_at M pc = some .lor) (hq : pc + 1 = q) (k : mW sc F M q ls (.long (x ||| y) :: r) h P) : mW sc F M pc ls (.long y :: .long x :: r) h P := mW.step ha rfl (by subst hq; exact k)
theorem w_ldiv {x y : Int64} {q : Nat} (ha : mm_at M pc = some .ldiv) (hy : ¬ y = 0) (hq : pc + 1 = q) (k : mW sc F M q ls (.long (x / y) :: r) h P) : mW sc F M pc ls (.long y :: .long x :: r) h P := mW.step ha (by simp only [mm_x, mm_bl]; rw [if_neg hy]) (by subst hq; exact k)
theorem w_lshl {x : Int64} {y : Int32} {q : Nat} (ha : mm_at M pc = some .lshl) (hq : pc + 1 = q) (k : mW sc F M q ls (.long (x <<< (y.toInt64 &&& 63)) :: r) h P) : mW sc F M pc ls (.int y :: .long x :: r) h P := mW.step ha rfl (by subst hq; exact k)
theorem w_lcmp {x y : Int64} {q : Nat} (ha : mm_at M pc = some .lcmp) (hq : pc + 1 = q) (k : mW sc F M q ls (.int (lg_cmp x y) :: r) h P) : mW sc F M pc ls (.long y :: .long x :: r) h P := mW.step ha rfl (by subst hq; exact k)
theorem w_i2l {x : Int32} {q : Nat} (ha : mm_at M pc = some .i2l) (hq : pc + 1 = q) (k : mW sc F M q ls (.long x.toInt64 :: r) h P) : mW sc F M pc ls (.int x :: r) h P := mW.step ha rfl (by subst hq; exact k)
theorem w_l2i {x : Int64} {q : Nat} (ha : mm_at M pc = some .l2i) (hq : pc + 1 = q) (k : mW sc F M q ls (.int x.toInt32 :: r) h P) : mW sc F M pc ls (.long x :: r) h P := mW.step ha rfl (by subst hq; exact k)
theorem w_dup {v : Value} {q : Nat} (ha : mm_at M pc = some .dup) (hv : v.category = 1) (hq : pc + 1 = q) (k : mW sc F M q ls (v :: v :: r) h P) : mW sc F M pc ls (v :: r) h P := mW.step ha (by simp only [mm_x]; rw [if_pos hv]) (by subst hq; exact k)
theorem w_pop {v : Value} {q : Nat} (ha : mm_at M pc = some .pop) (hv : v.category = 1) (hq : pc + 1 = q) (k : mW sc F M q ls r h P) : mW sc F M pc ls (v :: r) h P := mW.step ha (by simp only [mm_x]; rw [if_pos hv]) (by subst hq; exact k)
theorem w_dup_x1 {v u : Value} {q : Nat} (ha : mm_at M pc = some .dup_x1) (hv : v.category = 1 ∧ u.category = 1) (hq : pc + 1 = q) (k : mW sc F M q ls (v :: u :: v :: r) h P) : mW sc F M pc ls (v :: u :: r) h P := mW.step ha (by simp only [mm_x]; rw [if_pos hv]) (by subst hq; exact k)
theorem w_dup2 {v u : Value} {q : Nat} (ha : mm_at M pc = some .dup2) (hv : v.category = 1 ∧ u.category = 1) (hq : pc + 1 = q) (k : mW sc F M q ls (v :: u :: v :: u :: r) h P) : mW sc F M pc ls (v :: u :: r) h P := mW.step ha (by simp only [mm_x]; rw [if_pos hv]) (by subst hq; exact k)
theorem mm_go_at {off : Int} {t : Nat} (ht : (pc : Int) + off = (t : Int)) : mm_go pc off ls st h = some (.inl (t, ls, st, h)) := by
  unfold mm_go
  rw [if_pos (by omega), ht]
  rfl
theorem w_goto {off : Int} {t : Nat} (ha : mm_at M pc = some (.goto off)) (ht : (pc : Int) + off = (t : Int)) (k : mW sc F M t ls st h P) : mW sc F M pc ls st h P := mW.step ha (mm_go_at ht) k
theorem w_if {cd : Jvm.ClassFile.Cond} {off : Int} {x : Int32} {t q : Nat} (ha : mm_at M pc = some (.ifCond cd off)) (ht : (pc : Int) + off = (t : Int)) (hq : pc + 3 = q) (kt : mm_cmp cd x 0 = true → mW sc F M t ls r h P) (kf : mm_cmp cd x 0 = false → mW sc F M q ls r h P) : mW sc F M pc ls (.int x :: r) h P := by
  subst hq
  by_cases hc : mm_cmp cd x 0 = true
  · exact mW.step ha (by simp only [mm_x]; rw [if_pos hc]; exact mm_go_at ht) (kt hc)
  · exact mW.step ha (by simp only [mm_x]; rw [if_neg hc]) (kf (by simpa using hc))
theorem w_icmp {cd : Jvm.ClassFile.Cond} {off : Int} {x y : Int32} {t q : Nat} (ha : mm_at M pc = some (.if_icmp cd off)) (ht : (pc : Int) + off = (t : Int)) (hq : pc + 3 = q) (kt : mm_cmp cd x y = true → mW sc F M t ls r h P) (kf : mm_cmp cd x y = false → mW sc F M q ls r h P) : mW sc F M pc ls (.int y :: .int x :: r) h P := by
  subst hq
  by_cases hc : mm_cmp cd x y = true
  · exact mW.step ha (by simp only [mm_x]; rw [if_pos hc]; exact mm_go_at ht) (kt hc)
  · exact mW.step ha (by simp only [mm_x]; rw [if_neg hc]) (kf (by simpa using hc))
theorem w_nonnull {off : Int} {v : Option Nat} {t q : Nat} (ha : mm_at M pc = some (.ifnonnull off)) (ht : (pc : Int) + off = (t : Int)) (hq : pc + 3 = q) (kt : ∀ a, v = some a → mW sc F M t ls r h P) (kf : v = none → mW sc F M q ls r h P) : mW sc F M pc ls (va_rf v :: r) h P := by
  subst hq
  cases v with
  | none => exact mW.step ha rfl (kf rfl)
  | some a => exact mW.step ha (mm_go_at ht) (kt a rfl)
theorem w_table {d lo hi : Int} {offs : Array Int} {x : Int32} {o : Int} {t : Nat} (ha : mm_at M pc = some (.tableswitch d lo hi offs)) (h1 : lo ≤ x.toInt) (h2 : x.toInt ≤ hi) (ho : offs[(x.toInt - lo).toNat]? = some o) (ht : (pc : Int) + o = (t : Int)) (k : mW sc F M t ls r h P) : mW sc F M pc ls (.int x :: r) h P := mW.step ha (by simp only [mm_x]; rw [if_neg (by omega), ho]; exact mm_go_at ht) k
theorem w_tableD {d lo hi : Int} {offs : Array Int} {x : Int32} {t : Nat} (ha : mm_at M pc = some (.tableswitch d lo hi offs)) (h1 : x.toInt < lo ∨ hi < x.toInt) (ht : (pc : Int) + d = (t : Int)) (k : mW sc F M t ls r h P) : mW sc F M pc ls (.int x :: r) h P := mW.step ha (by simp only [mm_x]; rw [if_pos h1]; exact mm_go_at ht) k
theorem w_get {i ci j a : Nat} {fs : List Value} {v : Value} {q : Nat} (ha : mm_at M pc = some (.getfield i)) (hf : mm_fld M.1 i = some (ci, j)) (hc : h.2.2 a = some (ci, fs)) (hv : fs[j]? = some v) (hq : pc + 3 = q) (k : mW sc F M q ls (v :: r) h P) : mW sc F M pc ls (.ref a :: r) h P := mW.step ha (by simp only [mm_x, hf, hc, hv]; rfl) (by subst hq; exact k)
theorem w_put {i ci j a : Nat} {fs fs' : List Value} {v : Value} {q : Nat} (ha : mm_at M pc = some (.putfield i)) (hf : mm_fld M.1 i = some (ci, j)) (hc : h.2.2 a = some (ci, fs)) (hk : j < fs.length) (hn : narrow (mm_ty ci j) v = v) (ht : fits (mm_ty ci j) v = true) (hfin : (mm_F ci j).2.2.2 = false ∨ (M.2.1.name = "<init>" ∧ M.1 = ci)) (hs : fs.set j v = fs') (hq : pc + 3 = q) (k : mW sc F M q ls r (mm_up h a (ci, fs')) P) : mW sc F M pc ls (v :: .ref a :: r) h P := mW.step ha (by simp only [mm_x, hf, hc]; rw [if_pos ⟨trivial, hk, hn, ht, hfin⟩]) (by subst hq; subst hs; exact k)
theorem mm_ix_at {vs : List Value} {j : Int32} {n : Nat} {v : Value} (hj : j = nI n) (hn : n < 2 ^ 31) (hv : vs[n]? = some v) : mm_ix vs j = some v := by
  unfold mm_ix
  subst hj
  rw [if_neg (nI_pos hn), nI_clamp hn]
  exact hv
theorem w_iald {a : Nat} {vs : List Value} {j : Int32} {v : Value} {q : Nat} (ha : mm_at M pc = some .iaload) (h0 : ¬ a = 0) (hc : h.2.2 a = some (5, vs)) (hv : mm_ix vs j = some v) (hq : pc + 1 = q) (k : mW sc F M q ls (v :: r) h P) : mW sc F M pc ls (.int j :: .ref a :: r) h P := mW.step ha (by simp only [mm_x]; rw [if_neg h0, hc]; simp only [hv]; rfl) (by subst hq; exact k)
theorem w_sld {xs : List Int32} {n : Nat} {j x : Int32} {q : Nat} (ha : mm_at M pc = some .iaload) (hj : j = nI n) (hn : n < 2 ^ 31) (hv : xs[n]? = some x) (hq : pc + 1 = q) (k : mW (some xs) F M q ls (.int x :: r) h P) : mW (some xs) F M pc ls (.int j :: .ref 0 :: r) h P := mW.step ha (by subst hj; simp only [mm_x]; rw [if_pos trivial, if_neg (nI_pos hn), nI_clamp hn, hv]) (by subst hq; exact k)
theorem w_slen {xs : List Int32} {q : Nat} (ha : mm_at M pc = some .arraylength) (hq : pc + 1 = q) (k : mW (some xs) F M q ls (.int (Int32.ofNat xs.length) :: r) h P) : mW (some xs) F M pc ls (.ref 0 :: r) h P := mW.step ha rfl (by subst hq; exact k)
theorem w_lald {a : Nat} {vs : List Value} {j : Int32} {v : Value} {q : Nat} (ha : mm_at M pc = some .laload) (hc : h.2.2 a = some (6, vs)) (hv : mm_ix vs j = some v) (hq : pc + 1 = q) (k : mW sc F M q ls (v :: r) h P) : mW sc F M pc ls (.int j :: .ref a :: r) h P := mW.step ha (by simp only [mm_x]; rw [hc]; simp only [hv]; rfl) (by subst hq; exact k)
theorem w_aald {a ci : Nat} {vs : List Value} {j : Int32} {v : Value} {q : Nat} (ha : mm_at M pc = some .aaload) (hc : h.2.2 a = some (ci, vs)) (hci : ci = 7 ∨ ci = 8 ∨ ci = 9) (hv : mm_ix vs j = some v) (hq : pc + 1 = q) (k : mW sc F M q ls (v :: r) h P) : mW sc F M pc ls (.int j :: .ref a :: r) h P := mW.step ha (by simp only [mm_x]; rw [hc]; simp only [hv]; rw [if_pos hci]) (by subst hq; exact k)
theorem w_iast {a n : Nat} {vs vs' : List Value} {j x : Int32} {q : Nat} (ha : mm_at M pc = some .iastore) (hc : h.2.2 a = some (5, vs)) (hj : j = nI n) (hn : n < vs.length) (hb : vs.length < 2 ^ 31) (hs : vs.set n (.int x) = vs') (hq : pc + 1 = q) (k : mW sc F M q ls r (mm_up h a (5, vs')) P) : mW sc F M pc ls (.int x :: .int j :: .ref a :: r) h P := by
  subst hj; subst hs; subst hq
  have h1 := nI_pos (n := n) (by omega)
  have h2 := nI_clamp (n := n) (by omega)
  exact mW.step ha (by simp only [mm_x]; rw [hc]; simp only [h2]; rw [if_pos ⟨trivial, h1, hn⟩]) k
theorem w_last {a n : Nat} {vs vs' : List Value} {j : Int32} {x : Int64} {q : Nat} (ha : mm_at M pc = some .lastore) (hc : h.2.2 a = some (6, vs)) (hj : j = nI n) (hn : n < vs.length) (hb : vs.length < 2 ^ 31) (hs : vs.set n (.long x) = vs') (hq : pc + 1 = q) (k : mW sc F M q ls r (mm_up h a (6, vs')) P) : mW sc F M pc ls (.long x :: .int j :: .ref a :: r) h P := by
  subst hj; subst hs; subst hq
  have h1 := nI_pos (n := n) (by omega)
  have h2 := nI_clamp (n := n) (by omega)
  exact mW.step ha (by simp only [mm_x]; rw [hc]; simp only [h2]; rw [if_pos ⟨trivial, h1, hn⟩]) k
theorem w_aast {a n ci : Nat} {vs vs' : List Value} {j : Int32} {v : Value} {q : Nat} (ha : mm_at M pc = some .aastore) (hc : h.2.2 a = some (7 + ci, vs)) (hci : ci = 0 ∨ ci = 1) (hv : mm_okv h ci v = true) (hj : j = nI n) (hn : n < vs.length) (hb : vs.length < 2 ^ 31) (hs : vs.set n v = vs') (hq : pc + 1 = q) (k : mW sc F M q ls r (mm_up h a (7 + ci, vs')) P) : mW sc F M pc ls (v :: .int j :: .ref a :: r) h P := by
  subst hj; subst hs; subst hq
  have h1 := nI_pos (n := n) (by omega)
  have h2 := nI_clamp (n := n) (by omega)
  exact mW.step ha (by simp only [mm_x]; rw [hc]; simp only [h2]; rw [if_pos ⟨by rcases hci with rfl | rfl <;> simp [hv], h1, hn⟩]) k
theorem w_new {i ci : Nat} {q : Nat} (ha : mm_at M pc = some (.new i)) (hk : mm_cls M.1 i = some ci) (h5 : ¬ 4 < ci) (hq : pc + 3 = q) (k : mW sc F M q ls (.ref h.1 :: st) (mm_new h (ci, mm_df ci)) P) : mW sc F M pc ls st h P := mW.step ha (by simp only [mm_x, hk]; rw [if_neg h5]) (by subst hq; exact k)
theorem w_maxI {i : Nat} {x y : Int32} {q : Nat} (ha : mm_at M pc = some (.invokestatic i)) (hm : mm_max M.1 i = some 0) (hr : (r.map fun v => v.category).sum ≤ 8) (hq : pc + 3 = q) (k : mW sc (F + 1) M q ls (.int (if x < y then y else x) :: r) h P) : mW sc (F + 1) M pc ls (.int y :: .int x :: r) h P := mW.step ha (by simp only [mm_x, hm]; rw [if_pos ⟨by omega, hr⟩]) (by subst hq; exact k)
theorem w_maxJ {i : Nat} {x y : Int64} {q : Nat} (ha : mm_at M pc = some (.invokestatic i)) (hm : mm_max M.1 i = some 1) (hr : (r.map fun v => v.category).sum ≤ 8) (hq : pc + 3 = q) (k : mW sc (F + 1) M q ls (.long (if y < x then x else y) :: r) h P) : mW sc (F + 1) M pc ls (.long y :: .long x :: r) h P := mW.step ha (by simp only [mm_x, hm]; rw [if_pos ⟨by omega, hr⟩]) (by subst hq; exact k)
theorem w_obj {i a : Nat} {q : Nat} (ha : mm_at M pc = some (.invokespecial i)) (hm : mm_objL.contains (M.1, i) = true) (hr : (r.map fun v => v.category).sum ≤ 8) (hq : pc + 3 = q) (k : mW sc (F + 1) M q ls r h P) : mW sc (F + 1) M pc ls (.ref a :: r) h P := mW.step ha (by simp only [mm_x]; rw [if_pos hm, if_pos ⟨by omega, hr⟩]) (by subst hq; exact k)
theorem w_callS {i : Nat} {t : mm_T} {as rest : List Value} {P1 : Option Value → mm_H → Prop} (ha : mm_at M pc = some (.invokestatic i)) (hx : mm_max M.1 i = none) (hm : mm_mth M.1 i = some (0, t)) (hcl : mm_call t t.2.2.2.2.2 st = some (.inr (.inl (t, as, rest)))) (hc : mW none F t 0 (lv_args 0 as) [] h P1) (k : ∀ r h', P1 r h' → mW sc (F + 1) M (pc + 3) ls (r.toList ++ rest) h' P) : mW sc (F + 1) M pc ls st h P := mW.call ha (by simp only [mm_x, hx, hm]; exact hcl) hc k
theorem w_callV {i : Nat} {t : mm_T} {as rest : List Value} {P1 : Option Value → mm_H → Prop} (ha : mm_at M pc = some (.invokevirtual i)) (hm : mm_mth M.1 i = some (1, t)) (hth : mm_this h t.2.2.2.2.2 t.1 st = true) (hcl : mm_call t (t.2.2.2.2.2 + 1) st = some (.inr (.inl (t, as, rest)))) (hc : mW none F t 0 (lv_args 0 as) [] h P1) (k : ∀ r h', P1 r h' → mW sc (F + 1) M (pc + 3) ls (r.toList ++ rest) h' P) : mW sc (F + 1) M pc ls st h P := mW.call ha (by simp only [mm_x, hm]; rw [if_pos hth]; exact hcl) hc k
theorem w_callI {i kd : Nat} {t : mm_T} {as rest : List Value} {P1 : Option Value → mm_H → Prop} (ha : mm_at M pc = some (.invokespecial i)) (ho : mm_objL.contains (M.1, i) = false) (hm : mm_mth M.1 i = some (kd, t)) (hkd : kd = 2 ∨ kd = 3) (hth : mm_this h t.2.2.2.2.2 t.1 st = true) (hcl : mm_call t (t.2.2.2.2.2 + 1) st = some (.inr (.inl (t, as, rest)))) (hc : mW none F t 0 (lv_args 0 as) [] h P1) (k : ∀ r h', P1 r h' → mW sc (F + 1) M (pc + 3) ls (r.toList ++ rest) h' P) : mW sc (F + 1) M pc ls st h P := mW.call ha (by simp only [mm_x, hm]; rw [if_neg (by rw [ho]; decide), if_pos ⟨hkd, hth⟩]; exact hcl) hc k
theorem w_iret {v : Int32} (ha : mm_at M pc = some .ireturn) (ht : M.2.2.2.2.1 = some .int) (k : P (some (.int v)) h) : mW sc F M pc ls [.int v] h P := mW.ret ha (by simp only [mm_x]; rw [if_pos (Or.inl ht)]) k
theorem w_zret {v : Int32} (ha : mm_at M pc = some .ireturn) (ht : M.2.2.2.2.1 = some .boolean) (hv : v = 0 ∨ v = 1) (k : P (some (.int v)) h) : mW sc F M pc ls [.int v] h P := mW.ret ha (by simp only [mm_x]; rw [if_pos (Or.inr ⟨ht, hv⟩)]) k
theorem w_lret {v : Int64} (ha : mm_at M pc = some .lreturn) (ht : M.2.2.2.2.1 = some .long) (k : P (some (.long v)) h) : mW sc F M pc ls [.long v] h P := mW.ret ha (by simp only [mm_x]; rw [if_pos ht]) k
theorem w_vret (ha : mm_at M pc = some .return_) (ht : M.2.2.2.2.1 = none) (k : P none h) : mW sc F M pc ls [] h P := mW.ret ha (by simp only [mm_x]; rw [if_pos ht]) k
end MW
end
section
theorem f_2_9 : mm_fld 2 9 = some (2, 0) := by decide +kernel
theorem f_2_15 : mm_fld 2 15 = some (2, 1) := by decide +kernel
theorem f_2_23 : mm_fld 2 23 = some (2, 2) := by decide +kernel
theorem f_2_19 : mm_fld 2 19 = some (2, 3) := by decide +kernel
theorem f_3_121 : mm_fld 3 121 = some (2, 3) := by decide +kernel
theorem f_1_9 : mm_fld 1 9 = some (1, 0) := by decide +kernel
theorem f_1_19 : mm_fld 1 19 = some (1, 1) := by decide +kernel
theorem f_1_15 : mm_fld 1 15 = some (1, 2) := by decide +kernel
theorem f_3_53 : mm_fld 3 53 = some (1, 2) := by decide +kernel
theorem f_0_7 : mm_fld 0 7 = some (0, 0) := by decide +kernel
theorem f_3_160 : mm_fld 3 160 = some (0, 0) := by decide +kernel
theorem f_0_13 : mm_fld 0 13 = some (0, 1) := by decide +kernel
theorem f_3_163 : mm_fld 3 163 = some (0, 1) := by decide +kernel
theorem f_0_16 : mm_fld 0 16 = some (0, 2) := by decide +kernel
theorem f_3_166 : mm_fld 3 166 = some (0, 2) := by decide +kernel
theorem f_0_19 : mm_fld 0 19 = some (0, 3) := by decide +kernel
theorem f_3_192 : mm_fld 3 192 = some (0, 3) := by decide +kernel
theorem f_0_23 : mm_fld 0 23 = some (0, 4) := by decide +kernel
theorem f_3_169 : mm_fld 3 169 = some (0, 4) := by decide +kernel
theorem f_0_27 : mm_fld 0 27 = some (0, 5) := by decide +kernel
theorem f_3_179 : mm_fld 3 179 = some (0, 5) := by decide +kernel
theorem f_3_127 : mm_fld 3 127 = some (0, 6) := by decide +kernel
theorem f_3_9 : mm_fld 3 9 = some (3, 0) := by decide +kernel
theorem f_3_15 : mm_fld 3 15 = some (3, 1) := by decide +kernel
theorem f_3_22 : mm_fld 3 22 = some (3, 2) := by decide +kernel
theorem f_3_28 : mm_fld 3 28 = some (3, 3) := by decide +kernel
theorem f_3_32 : mm_fld 3 32 = some (3, 4) := by decide +kernel
theorem f_3_61 : mm_fld 3 61 = some (3, 5) := by decide +kernel
theorem f_3_37 : mm_fld 3 37 = some (3, 6) := by decide +kernel
theorem f_3_146 : mm_fld 3 146 = some (3, 7) := by decide +kernel
theorem f_3_77 : mm_fld 3 77 = some (3, 8) := by decide +kernel
theorem f_3_103 : mm_fld 3 103 = some (3, 9) := by decide +kernel
theorem f_3_106 : mm_fld 3 106 = some (3, 10) := by decide +kernel
theorem f_3_109 : mm_fld 3 109 = some (3, 11) := by decide +kernel
theorem f_3_112 : mm_fld 3 112 = some (3, 12) := by decide +kernel
theorem f_3_115 : mm_fld 3 115 = some (3, 13) := by decide +kernel
theorem f_3_118 : mm_fld 3 118 = some (3, 14) := by decide +kernel
theorem f_3_124 : mm_fld 3 124 = some (3, 15) := by decide +kernel
theorem f_3_74 : mm_fld 3 74 = some (3, 16) := by decide +kernel
theorem f_4_7 : mm_fld 4 7 = some (4, 0) := by decide +kernel
theorem f_4_13 : mm_fld 4 13 = some (4, 1) := by decide +kernel
theorem f_4_17 : mm_fld 4 17 = some (4, 2) := by decide +kernel
theorem f_4_20 : mm_fld 4 20 = some (4, 3) := by decide +kernel
theorem f_4_81 : mm_fld 4 81 = some (4, 4) := by decide +kernel
theorem f_4_23 : mm_fld 4 23 = some (4, 5) := by decide +kernel
theorem f_4_26 : mm_fld 4 26 = some (4, 6) := by decide +kernel
theorem f_4_29 : mm_fld 4 29 = some (4, 7) := by decide +kernel
theorem f_4_32 : mm_fld 4 32 = some (4, 8) := by decide +kernel
theorem f_4_35 : mm_fld 4 35 = some (4, 9) := by decide +kernel
theorem f_4_38 : mm_fld 4 38 = some (4, 10) := by decide +kernel
theorem f_4_41 : mm_fld 4 41 = some (4, 11) := by decide +kernel
theorem f_4_44 : mm_fld 4 44 = some (4, 12) := by decide +kernel
theorem f_4_47 : mm_fld 4 47 = some (4, 13) := by decide +kernel
theorem f_4_50 : mm_fld 4 50 = some (4, 14) := by decide +kernel
theorem f_4_53 : mm_fld 4 53 = some (4, 15) := by decide +kernel
theorem f_4_147 : mm_fld 4 147 = some (4, 16) := by decide +kernel
theorem f_4_120 : mm_fld 4 120 = some (4, 17) := by decide +kernel
theorem f_4_56 : mm_fld 4 56 = some (4, 18) := by decide +kernel
theorem f_4_59 : mm_fld 4 59 = some (4, 19) := by decide +kernel
theorem f_4_62 : mm_fld 4 62 = some (4, 20) := by decide +kernel
theorem f_4_65 : mm_fld 4 65 = some (4, 21) := by decide +kernel
theorem f_4_68 : mm_fld 4 68 = some (4, 22) := by decide +kernel
theorem f_4_71 : mm_fld 4 71 = some (4, 23) := by decide +kernel
theorem f_4_123 : mm_fld 4 123 = some (4, 24) := by decide +kernel
theorem f_4_140 : mm_fld 4 140 = some (4, 25) := by decide +kernel
theorem f_4_126 : mm_fld 4 126 = some (4, 26) := by decide +kernel
theorem f_4_150 : mm_fld 4 150 = some (4, 27) := by decide +kernel
theorem f_4_133 : mm_fld 4 133 = some (4, 28) := by decide +kernel
theorem f_4_136 : mm_fld 4 136 = some (4, 29) := by decide +kernel
theorem f_4_74 : mm_fld 4 74 = some (4, 30) := by decide +kernel
set_option maxRecDepth 100000 in
theorem t_5_9 : mm_mth 5 9 = some (2, mX3_init) := rfl
theorem o_5_9 : mm_objL.contains (5, 9) = false := by decide +kernel
set_option maxRecDepth 100000 in
theorem t_3_41 : mm_mth 3 41 = some (1, mX3_makeHearer) := rfl
set_option maxRecDepth 100000 in
theorem t_3_132 : mm_mth 3 132 = some (2, mX0_init) := rfl
theorem o_3_132 : mm_objL.contains (3, 132) = false := by decide +kernel
set_option maxRecDepth 100000 in
theorem t_5_15 : mm_mth 5 15 = some (1, mX3_tally) := rfl
set_option maxRecDepth 100000 in
theorem t_3_45 : mm_mth 3 45 = some (0, mX3_isTally) := rfl
theorem x_3_45 : mm_max 3 45 = none := by decide +kernel
set_option maxRecDepth 100000 in
theorem t_5_20 : mm_mth 5 20 = some (1, mX3_way) := rfl
set_option maxRecDepth 100000 in
theorem t_3_49 : mm_mth 3 49 = some (0, mX3_isBell) := rfl
theorem x_3_49 : mm_max 3 49 = none := by decide +kernel
set_option maxRecDepth 100000 in
theorem t_5_25 : mm_mth 5 25 = some (1, mX3_hearer) := rfl
set_option maxRecDepth 100000 in
theorem t_3_57 : mm_mth 3 57 = some (1, mX3_canBeMade) := rfl
set_option maxRecDepth 100000 in
theorem t_3_64 : mm_mth 3 64 = some (1, mX3_isHearer) := rfl
set_option maxRecDepth 100000 in
theorem t_5_30 : mm_mth 5 30 = some (1, mX3_bind) := rfl
set_option maxRecDepth 100000 in
theorem t_3_67 : mm_mth 3 67 = some (1, mX1_append) := rfl
set_option maxRecDepth 100000 in
theorem t_1_22 : mm_mth 1 22 = some (1, mX1_placeOf) := rfl
set_option maxRecDepth 100000 in
theorem t_5_34 : mm_mth 5 34 = some (1, mX3_leave) := rfl
set_option maxRecDepth 100000 in
theorem t_3_71 : mm_mth 3 71 = some (1, mX1_remove) := rfl
set_option maxRecDepth 100000 in
theorem t_5_38 : mm_mth 5 38 = some (1, mX3_take) := rfl
set_option maxRecDepth 100000 in
theorem t_5_43 : mm_mth 5 43 = some (1, mX3_lend) := rfl
set_option maxRecDepth 100000 in
theorem t_5_47 : mm_mth 5 47 = some (1, mX3_ring) := rfl
set_option maxRecDepth 100000 in
theorem t_3_80 : mm_mth 3 80 = some (1, mX3_ringBell) := rfl
set_option maxRecDepth 100000 in
theorem t_3_149 : mm_mth 3 149 = some (1, mX1_copyLine) := rfl
set_option maxRecDepth 100000 in
theorem t_3_153 : mm_mth 3 153 = some (1, mX1_placeOf) := rfl
set_option maxRecDepth 100000 in
theorem t_3_90 : mm_mth 3 90 = some (1, mX3_perform) := rfl
set_option maxRecDepth 100000 in
theorem t_3_182 : mm_mth 3 182 = some (1, mX3_metByTry) := rfl
set_option maxRecDepth 100000 in
theorem t_3_210 : mm_mth 3 210 = some (0, mX3_canBeMet) := rfl
theorem x_3_210 : mm_max 3 210 = none := by decide +kernel
set_option maxRecDepth 100000 in
theorem t_3_186 : mm_mth 3 186 = some (1, mX3_performAlone) := rfl
set_option maxRecDepth 100000 in
theorem t_3_196 : mm_mth 3 196 = some (1, mX3_shareTally) := rfl
set_option maxRecDepth 100000 in
theorem t_3_199 : mm_mth 3 199 = some (1, mX3_addAtPlace) := rfl
set_option maxRecDepth 100000 in
theorem t_3_203 : mm_mth 3 203 = some (1, mX2_append) := rfl
set_option maxRecDepth 100000 in
theorem t_3_206 : mm_mth 3 206 = some (1, mX3_removeFromAllLines) := rfl
set_option maxRecDepth 100000 in
theorem t_3_156 : mm_mth 3 156 = some (1, mX3_metByBell) := rfl
set_option maxRecDepth 100000 in
theorem t_3_94 : mm_mth 3 94 = some (0, mX3_wellIfStopped) := rfl
theorem x_3_94 : mm_max 3 94 = none := by decide +kernel
set_option maxRecDepth 100000 in
theorem t_3_84 : mm_mth 3 84 = some (1, mX3_ringQueueAfter) := rfl
set_option maxRecDepth 100000 in
theorem t_3_135 : mm_mth 3 135 = some (1, mX2_firstBell) := rfl
set_option maxRecDepth 100000 in
theorem t_3_139 : mm_mth 3 139 = some (1, mX2_firstValue) := rfl
set_option maxRecDepth 100000 in
theorem t_3_143 : mm_mth 3 143 = some (1, mX2_dropFirst) := rfl
set_option maxRecDepth 100000 in
theorem t_3_87 : mm_mth 3 87 = some (1, mX3_answerOfCall) := rfl
set_option maxRecDepth 100000 in
theorem t_5_51 : mm_mth 5 51 = some (1, mX3_drain) := rfl
set_option maxRecDepth 100000 in
theorem t_5_56 : mm_mth 5 56 = some (1, mX3_act) := rfl
set_option maxRecDepth 100000 in
theorem t_5_60 : mm_mth 5 60 = some (1, mX3_get) := rfl
set_option maxRecDepth 100000 in
theorem t_5_65 : mm_mth 5 65 = some (1, mX3_line) := rfl
set_option maxRecDepth 100000 in
theorem t_3_97 : mm_mth 3 97 = some (1, mX1_hearerAt) := rfl
set_option maxRecDepth 100000 in
theorem t_5_69 : mm_mth 5 69 = some (1, mX3_queued) := rfl
set_option maxRecDepth 100000 in
theorem t_3_100 : mm_mth 3 100 = some (1, mX2_bellAt) := rfl
set_option maxRecDepth 100000 in
theorem t_5_73 : mm_mth 5 73 = some (1, mX3_count) := rfl
set_option maxRecDepth 100000 in
theorem t_5_77 : mm_mth 5 77 = some (1, mX3_done) := rfl
set_option maxRecDepth 100000 in
theorem t_5_12 : mm_mth 5 12 = some (2, mX4_init) := rfl
theorem o_5_12 : mm_objL.contains (5, 12) = false := by decide +kernel
set_option maxRecDepth 100000 in
theorem t_4_77 : mm_mth 4 77 = some (1, mX4_make) := rfl
set_option maxRecDepth 100000 in
theorem t_4_85 : mm_mth 4 85 = some (0, mX4_in) := rfl
theorem x_4_85 : mm_max 4 85 = none := by decide +kernel
set_option maxRecDepth 100000 in
theorem t_5_19 : mm_mth 5 19 = some (1, mX4_tally) := rfl
set_option maxRecDepth 100000 in
theorem t_4_93 : mm_mth 4 93 = some (0, mX4_isTally) := rfl
theorem x_4_93 : mm_max 4 93 = none := by decide +kernel
set_option maxRecDepth 100000 in
theorem t_5_24 : mm_mth 5 24 = some (1, mX4_way) := rfl
set_option maxRecDepth 100000 in
theorem t_4_97 : mm_mth 4 97 = some (0, mX4_isBell) := rfl
theorem x_4_97 : mm_max 4 97 = none := by decide +kernel
set_option maxRecDepth 100000 in
theorem t_5_29 : mm_mth 5 29 = some (1, mX4_hearer) := rfl
set_option maxRecDepth 100000 in
theorem t_4_106 : mm_mth 4 106 = some (1, mX4_isHearer) := rfl
set_option maxRecDepth 100000 in
theorem t_5_33 : mm_mth 5 33 = some (1, mX4_bind) := rfl
set_option maxRecDepth 100000 in
theorem t_4_109 : mm_mth 4 109 = some (1, mX4_placeOf) := rfl
set_option maxRecDepth 100000 in
theorem t_4_113 : mm_mth 4 113 = some (1, mX4_put) := rfl
set_option maxRecDepth 100000 in
theorem t_5_37 : mm_mth 5 37 = some (1, mX4_leave) := rfl
set_option maxRecDepth 100000 in
theorem t_4_117 : mm_mth 4 117 = some (1, mX4_out) := rfl
set_option maxRecDepth 100000 in
theorem t_5_42 : mm_mth 5 42 = some (1, mX4_take) := rfl
set_option maxRecDepth 100000 in
theorem t_5_46 : mm_mth 5 46 = some (1, mX4_lend) := rfl
set_option maxRecDepth 100000 in
theorem t_5_50 : mm_mth 5 50 = some (1, mX4_ring) := rfl
set_option maxRecDepth 100000 in
theorem t_4_175 : mm_mth 4 175 = some (1, mX4_ready) := rfl
set_option maxRecDepth 100000 in
theorem t_4_143 : mm_mth 4 143 = some (1, mX4_rings) := rfl
set_option maxRecDepth 100000 in
theorem t_4_129 : mm_mth 4 129 = some (1, mX4_heap) := rfl
set_option maxRecDepth 100000 in
theorem t_4_178 : mm_mth 4 178 = some (1, mX4_all) := rfl
set_option maxRecDepth 100000 in
theorem t_4_172 : mm_mth 4 172 = some (1, mX4_works) := rfl
set_option maxRecDepth 100000 in
theorem t_4_160 : mm_mth 4 160 = some (1, mX4_fails) := rfl
set_option maxRecDepth 100000 in
theorem t_4_163 : mm_mth 4 163 = some (1, mX4_stop) := rfl
set_option maxRecDepth 100000 in
theorem t_4_166 : mm_mth 4 166 = some (1, mX4_does) := rfl
set_option maxRecDepth 100000 in
theorem t_4_154 : mm_mth 4 154 = some (1, mX4_doesOthers) := rfl
set_option maxRecDepth 100000 in
theorem t_4_157 : mm_mth 4 157 = some (1, mX4_begins) := rfl
set_option maxRecDepth 100000 in
theorem t_4_169 : mm_mth 4 169 = some (1, mX4_goesOn) := rfl
set_option maxRecDepth 100000 in
theorem t_5_55 : mm_mth 5 55 = some (1, mX4_drain) := rfl
set_option maxRecDepth 100000 in
theorem t_5_59 : mm_mth 5 59 = some (1, mX4_act) := rfl
set_option maxRecDepth 100000 in
theorem t_5_64 : mm_mth 5 64 = some (1, mX4_get) := rfl
set_option maxRecDepth 100000 in
theorem t_5_68 : mm_mth 5 68 = some (1, mX4_line) := rfl
set_option maxRecDepth 100000 in
theorem t_5_72 : mm_mth 5 72 = some (1, mX4_queued) := rfl
set_option maxRecDepth 100000 in
theorem t_5_76 : mm_mth 5 76 = some (1, mX4_count) := rfl
set_option maxRecDepth 100000 in
theorem t_5_80 : mm_mth 5 80 = some (1, mX4_done) := rfl
set_option maxRecDepth 100000 in
theorem t_3_21 : mm_mth 3 21 = some (3, mX2_init) := rfl
theorem o_3_21 : mm_objL.contains (3, 21) = false := by decide +kernel
set_option maxRecDepth 100000 in
theorem t_3_40 : mm_mth 3 40 = some (3, mX1_init) := rfl
theorem o_3_40 : mm_objL.contains (3, 40) = false := by decide +kernel
theorem x_3_173 : mm_max 3 173 = some 0 := by decide +kernel
theorem x_3_189 : mm_max 3 189 = some 1 := by decide +kernel
theorem k_5_7 : mm_cls 5 7 = some 3 := by decide +kernel
theorem k_3_13 : mm_cls 3 13 = some 1 := by decide +kernel
theorem k_3_19 : mm_cls 3 19 = some 2 := by decide +kernel
theorem k_3_26 : mm_cls 3 26 = some 0 := by decide +kernel
theorem k_3_35 : mm_cls 3 35 = some 9 := by decide +kernel
theorem k_5_10 : mm_cls 5 10 = some 4 := by decide +kernel
theorem o_3_1 : mm_objL.contains (3, 1) = true := by decide +kernel
theorem o_2_3 : mm_objL.contains (2, 3) = true := by decide +kernel
theorem o_1_3 : mm_objL.contains (1, 3) = true := by decide +kernel
theorem o_0_1 : mm_objL.contains (0, 1) = true := by decide +kernel
theorem o_4_1 : mm_objL.contains (4, 1) = true := by decide +kernel
theorem l_3_130 : mm_ldc 3 130 = some 8 := by decide +kernel
theorem l_4_100 : mm_ldc 4 100 = some 8 := by decide +kernel
theorem l_4_102 : mm_ldc 4 102 = some 12 := by decide +kernel
theorem l_4_91 : mm_ldc 4 91 = some 7 := by decide +kernel
theorem l_4_89 : mm_ldc 4 89 = some 5 := by decide +kernel
theorem l_4_104 : mm_ldc 4 104 = some 14 := by decide +kernel
theorem l_4_182 : mm_ldc 4 182 = some 9 := by decide +kernel
theorem l_5_13 : mm_ldc 5 13 = some 4294967295 := by decide +kernel
end
section
theorem aX0_init_0 : mm_at mX0_init 0 = some (.aload_n 0) := by decide +kernel
theorem aX0_init_1 : mm_at mX0_init 1 = some (.invokespecial 1) := by decide +kernel
theorem aX0_init_4 : mm_at mX0_init 4 = some (.aload_n 0) := by decide +kernel
theorem aX0_init_5 : mm_at mX0_init 5 = some (.iload_n 1) := by decide +kernel
theorem aX0_init_6 : mm_at mX0_init 6 = some (.putfield 7) := by decide +kernel
theorem aX0_init_9 : mm_at mX0_init 9 = some (.aload_n 0) := by decide +kernel
theorem aX0_init_10 : mm_at mX0_init 10 = some (.iload_n 2) := by decide +kernel
theorem aX0_init_11 : mm_at mX0_init 11 = some (.putfield 13) := by decide +kernel
theorem aX0_init_14 : mm_at mX0_init 14 = some (.aload_n 0) := by decide +kernel
theorem aX0_init_15 : mm_at mX0_init 15 = some (.iload_n 3) := by decide +kernel
theorem aX0_init_16 : mm_at mX0_init 16 = some (.putfield 16) := by decide +kernel
theorem aX0_init_19 : mm_at mX0_init 19 = some (.aload_n 0) := by decide +kernel
theorem aX0_init_20 : mm_at mX0_init 20 = some (.lload 4) := by decide +kernel
theorem aX0_init_22 : mm_at mX0_init 22 = some (.putfield 19) := by decide +kernel
theorem aX0_init_25 : mm_at mX0_init 25 = some (.aload_n 0) := by decide +kernel
theorem aX0_init_26 : mm_at mX0_init 26 = some (.aload 6) := by decide +kernel
theorem aX0_init_28 : mm_at mX0_init 28 = some (.putfield 23) := by decide +kernel
theorem aX0_init_31 : mm_at mX0_init 31 = some (.aload_n 0) := by decide +kernel
theorem aX0_init_32 : mm_at mX0_init 32 = some (.aload 7) := by decide +kernel
theorem aX0_init_34 : mm_at mX0_init 34 = some (.putfield 27) := by decide +kernel
theorem aX0_init_37 : mm_at mX0_init 37 = some (.return_) := by decide +kernel
theorem aX1_init_0 : mm_at mX1_init 0 = some (.aload_n 0) := by decide +kernel
theorem aX1_init_1 : mm_at mX1_init 1 = some (.invokespecial 3) := by decide +kernel
theorem aX1_init_4 : mm_at mX1_init 4 = some (.aload_n 0) := by decide +kernel
theorem aX1_init_5 : mm_at mX1_init 5 = some (.bipush 12) := by decide +kernel
theorem aX1_init_7 : mm_at mX1_init 7 = some (.newarray .int) := by decide +kernel
theorem aX1_init_9 : mm_at mX1_init 9 = some (.putfield 9) := by decide +kernel
theorem aX1_init_12 : mm_at mX1_init 12 = some (.aload_n 0) := by decide +kernel
theorem aX1_init_13 : mm_at mX1_init 13 = some (.iconst 0) := by decide +kernel
theorem aX1_init_14 : mm_at mX1_init 14 = some (.putfield 15) := by decide +kernel
theorem aX1_init_17 : mm_at mX1_init 17 = some (.return_) := by decide +kernel
theorem aX1_hearerAt_0 : mm_at mX1_hearerAt 0 = some (.iload_n 1) := by decide +kernel
theorem aX1_hearerAt_1 : mm_at mX1_hearerAt 1 = some (.ifCond .lt 20) := by decide +kernel
theorem aX1_hearerAt_4 : mm_at mX1_hearerAt 4 = some (.iload_n 1) := by decide +kernel
theorem aX1_hearerAt_5 : mm_at mX1_hearerAt 5 = some (.aload_n 0) := by decide +kernel
theorem aX1_hearerAt_6 : mm_at mX1_hearerAt 6 = some (.getfield 19) := by decide +kernel
theorem aX1_hearerAt_9 : mm_at mX1_hearerAt 9 = some (.if_icmp .ge 12) := by decide +kernel
theorem aX1_hearerAt_12 : mm_at mX1_hearerAt 12 = some (.aload_n 0) := by decide +kernel
theorem aX1_hearerAt_13 : mm_at mX1_hearerAt 13 = some (.getfield 9) := by decide +kernel
theorem aX1_hearerAt_16 : mm_at mX1_hearerAt 16 = some (.iload_n 1) := by decide +kernel
theorem aX1_hearerAt_17 : mm_at mX1_hearerAt 17 = some (.iaload) := by decide +kernel
theorem aX1_hearerAt_18 : mm_at mX1_hearerAt 18 = some (.goto 4) := by decide +kernel
theorem aX1_hearerAt_21 : mm_at mX1_hearerAt 21 = some (.iconst (-1)) := by decide +kernel
theorem aX1_hearerAt_22 : mm_at mX1_hearerAt 22 = some (.ireturn) := by decide +kernel
theorem aX1_placeOf_0 : mm_at mX1_placeOf 0 = some (.iconst 0) := by decide +kernel
theorem aX1_placeOf_1 : mm_at mX1_placeOf 1 = some (.istore_n 2) := by decide +kernel
theorem aX1_placeOf_2 : mm_at mX1_placeOf 2 = some (.iload_n 2) := by decide +kernel
theorem aX1_placeOf_3 : mm_at mX1_placeOf 3 = some (.aload_n 0) := by decide +kernel
theorem aX1_placeOf_4 : mm_at mX1_placeOf 4 = some (.getfield 19) := by decide +kernel
theorem aX1_placeOf_7 : mm_at mX1_placeOf 7 = some (.if_icmp .ge 21) := by decide +kernel
theorem aX1_placeOf_10 : mm_at mX1_placeOf 10 = some (.aload_n 0) := by decide +kernel
theorem aX1_placeOf_11 : mm_at mX1_placeOf 11 = some (.getfield 9) := by decide +kernel
theorem aX1_placeOf_14 : mm_at mX1_placeOf 14 = some (.iload_n 2) := by decide +kernel
theorem aX1_placeOf_15 : mm_at mX1_placeOf 15 = some (.iaload) := by decide +kernel
theorem aX1_placeOf_16 : mm_at mX1_placeOf 16 = some (.iload_n 1) := by decide +kernel
theorem aX1_placeOf_17 : mm_at mX1_placeOf 17 = some (.if_icmp .ne 5) := by decide +kernel
theorem aX1_placeOf_20 : mm_at mX1_placeOf 20 = some (.iload_n 2) := by decide +kernel
theorem aX1_placeOf_21 : mm_at mX1_placeOf 21 = some (.ireturn) := by decide +kernel
theorem aX1_placeOf_22 : mm_at mX1_placeOf 22 = some (.iinc 2 1) := by decide +kernel
theorem aX1_placeOf_25 : mm_at mX1_placeOf 25 = some (.goto (-23)) := by decide +kernel
theorem aX1_placeOf_28 : mm_at mX1_placeOf 28 = some (.iconst (-1)) := by decide +kernel
theorem aX1_placeOf_29 : mm_at mX1_placeOf 29 = some (.ireturn) := by decide +kernel
theorem aX1_append_0 : mm_at mX1_append 0 = some (.aload_n 0) := by decide +kernel
theorem aX1_append_1 : mm_at mX1_append 1 = some (.iload_n 1) := by decide +kernel
theorem aX1_append_2 : mm_at mX1_append 2 = some (.invokevirtual 22) := by decide +kernel
theorem aX1_append_5 : mm_at mX1_append 5 = some (.iconst (-1)) := by decide +kernel
theorem aX1_append_6 : mm_at mX1_append 6 = some (.if_icmp .eq 5) := by decide +kernel
theorem aX1_append_9 : mm_at mX1_append 9 = some (.iconst (-1)) := by decide +kernel
theorem aX1_append_10 : mm_at mX1_append 10 = some (.ireturn) := by decide +kernel
theorem aX1_append_11 : mm_at mX1_append 11 = some (.aload_n 0) := by decide +kernel
theorem aX1_append_12 : mm_at mX1_append 12 = some (.getfield 19) := by decide +kernel
theorem aX1_append_15 : mm_at mX1_append 15 = some (.bipush 12) := by decide +kernel
theorem aX1_append_17 : mm_at mX1_append 17 = some (.if_icmp .lt 6) := by decide +kernel
theorem aX1_append_20 : mm_at mX1_append 20 = some (.bipush (-3)) := by decide +kernel
theorem aX1_append_22 : mm_at mX1_append 22 = some (.ireturn) := by decide +kernel
theorem aX1_append_23 : mm_at mX1_append 23 = some (.aload_n 0) := by decide +kernel
theorem aX1_append_24 : mm_at mX1_append 24 = some (.getfield 9) := by decide +kernel
theorem aX1_append_27 : mm_at mX1_append 27 = some (.aload_n 0) := by decide +kernel
theorem aX1_append_28 : mm_at mX1_append 28 = some (.getfield 19) := by decide +kernel
theorem aX1_append_31 : mm_at mX1_append 31 = some (.iload_n 1) := by decide +kernel
theorem aX1_append_32 : mm_at mX1_append 32 = some (.iastore) := by decide +kernel
theorem aX1_append_33 : mm_at mX1_append 33 = some (.aload_n 0) := by decide +kernel
theorem aX1_append_34 : mm_at mX1_append 34 = some (.dup) := by decide +kernel
theorem aX1_append_35 : mm_at mX1_append 35 = some (.getfield 19) := by decide +kernel
theorem aX1_append_38 : mm_at mX1_append 38 = some (.dup_x1) := by decide +kernel
theorem aX1_append_39 : mm_at mX1_append 39 = some (.iconst 1) := by decide +kernel
theorem aX1_append_40 : mm_at mX1_append 40 = some (.iadd) := by decide +kernel
theorem aX1_append_41 : mm_at mX1_append 41 = some (.putfield 19) := by decide +kernel
theorem aX1_append_44 : mm_at mX1_append 44 = some (.ireturn) := by decide +kernel
theorem aX1_remove_0 : mm_at mX1_remove 0 = some (.aload_n 0) := by decide +kernel
theorem aX1_remove_1 : mm_at mX1_remove 1 = some (.iload_n 1) := by decide +kernel
theorem aX1_remove_2 : mm_at mX1_remove 2 = some (.invokevirtual 22) := by decide +kernel
theorem aX1_remove_5 : mm_at mX1_remove 5 = some (.istore_n 2) := by decide +kernel
theorem aX1_remove_6 : mm_at mX1_remove 6 = some (.iload_n 2) := by decide +kernel
theorem aX1_remove_7 : mm_at mX1_remove 7 = some (.iconst (-1)) := by decide +kernel
theorem aX1_remove_8 : mm_at mX1_remove 8 = some (.if_icmp .ne 5) := by decide +kernel
theorem aX1_remove_11 : mm_at mX1_remove 11 = some (.iconst (-1)) := by decide +kernel
theorem aX1_remove_12 : mm_at mX1_remove 12 = some (.ireturn) := by decide +kernel
theorem aX1_remove_13 : mm_at mX1_remove 13 = some (.aload_n 0) := by decide +kernel
theorem aX1_remove_14 : mm_at mX1_remove 14 = some (.dup) := by decide +kernel
theorem aX1_remove_15 : mm_at mX1_remove 15 = some (.getfield 19) := by decide +kernel
theorem aX1_remove_18 : mm_at mX1_remove 18 = some (.iconst 1) := by decide +kernel
theorem aX1_remove_19 : mm_at mX1_remove 19 = some (.isub) := by decide +kernel
theorem aX1_remove_20 : mm_at mX1_remove 20 = some (.putfield 19) := by decide +kernel
theorem aX1_remove_23 : mm_at mX1_remove 23 = some (.iload_n 2) := by decide +kernel
theorem aX1_remove_24 : mm_at mX1_remove 24 = some (.istore_n 3) := by decide +kernel
theorem aX1_remove_25 : mm_at mX1_remove 25 = some (.iload_n 3) := by decide +kernel
theorem aX1_remove_26 : mm_at mX1_remove 26 = some (.aload_n 0) := by decide +kernel
theorem aX1_remove_27 : mm_at mX1_remove 27 = some (.getfield 19) := by decide +kernel
theorem aX1_remove_30 : mm_at mX1_remove 30 = some (.if_icmp .ge 23) := by decide +kernel
theorem aX1_remove_33 : mm_at mX1_remove 33 = some (.aload_n 0) := by decide +kernel
theorem aX1_remove_34 : mm_at mX1_remove 34 = some (.getfield 9) := by decide +kernel
theorem aX1_remove_37 : mm_at mX1_remove 37 = some (.iload_n 3) := by decide +kernel
theorem aX1_remove_38 : mm_at mX1_remove 38 = some (.aload_n 0) := by decide +kernel
theorem aX1_remove_39 : mm_at mX1_remove 39 = some (.getfield 9) := by decide +kernel
theorem aX1_remove_42 : mm_at mX1_remove 42 = some (.iload_n 3) := by decide +kernel
theorem aX1_remove_43 : mm_at mX1_remove 43 = some (.iconst 1) := by decide +kernel
theorem aX1_remove_44 : mm_at mX1_remove 44 = some (.iadd) := by decide +kernel
theorem aX1_remove_45 : mm_at mX1_remove 45 = some (.iaload) := by decide +kernel
theorem aX1_remove_46 : mm_at mX1_remove 46 = some (.iastore) := by decide +kernel
theorem aX1_remove_47 : mm_at mX1_remove 47 = some (.iinc 3 1) := by decide +kernel
theorem aX1_remove_50 : mm_at mX1_remove 50 = some (.goto (-25)) := by decide +kernel
theorem aX1_remove_53 : mm_at mX1_remove 53 = some (.iload_n 2) := by decide +kernel
theorem aX1_remove_54 : mm_at mX1_remove 54 = some (.ireturn) := by decide +kernel
theorem aX1_copyLine_0 : mm_at mX1_copyLine 0 = some (.iconst 0) := by decide +kernel
theorem aX1_copyLine_1 : mm_at mX1_copyLine 1 = some (.istore_n 2) := by decide +kernel
theorem aX1_copyLine_2 : mm_at mX1_copyLine 2 = some (.iload_n 2) := by decide +kernel
theorem aX1_copyLine_3 : mm_at mX1_copyLine 3 = some (.aload_n 0) := by decide +kernel
theorem aX1_copyLine_4 : mm_at mX1_copyLine 4 = some (.getfield 19) := by decide +kernel
theorem aX1_copyLine_7 : mm_at mX1_copyLine 7 = some (.if_icmp .ge 18) := by decide +kernel
theorem aX1_copyLine_10 : mm_at mX1_copyLine 10 = some (.aload_n 1) := by decide +kernel
theorem aX1_copyLine_11 : mm_at mX1_copyLine 11 = some (.iload_n 2) := by decide +kernel
theorem aX1_copyLine_12 : mm_at mX1_copyLine 12 = some (.aload_n 0) := by decide +kernel
theorem aX1_copyLine_13 : mm_at mX1_copyLine 13 = some (.getfield 9) := by decide +kernel
theorem aX1_copyLine_16 : mm_at mX1_copyLine 16 = some (.iload_n 2) := by decide +kernel
theorem aX1_copyLine_17 : mm_at mX1_copyLine 17 = some (.iaload) := by decide +kernel
theorem aX1_copyLine_18 : mm_at mX1_copyLine 18 = some (.iastore) := by decide +kernel
theorem aX1_copyLine_19 : mm_at mX1_copyLine 19 = some (.iinc 2 1) := by decide +kernel
theorem aX1_copyLine_22 : mm_at mX1_copyLine 22 = some (.goto (-20)) := by decide +kernel
theorem aX1_copyLine_25 : mm_at mX1_copyLine 25 = some (.aload_n 0) := by decide +kernel
theorem aX1_copyLine_26 : mm_at mX1_copyLine 26 = some (.getfield 19) := by decide +kernel
theorem aX1_copyLine_29 : mm_at mX1_copyLine 29 = some (.ireturn) := by decide +kernel
theorem aX2_init_0 : mm_at mX2_init 0 = some (.aload_n 0) := by decide +kernel
theorem aX2_init_1 : mm_at mX2_init 1 = some (.invokespecial 3) := by decide +kernel
theorem aX2_init_4 : mm_at mX2_init 4 = some (.aload_n 0) := by decide +kernel
theorem aX2_init_5 : mm_at mX2_init 5 = some (.bipush 20) := by decide +kernel
theorem aX2_init_7 : mm_at mX2_init 7 = some (.newarray .int) := by decide +kernel
theorem aX2_init_9 : mm_at mX2_init 9 = some (.putfield 9) := by decide +kernel
theorem aX2_init_12 : mm_at mX2_init 12 = some (.aload_n 0) := by decide +kernel
theorem aX2_init_13 : mm_at mX2_init 13 = some (.bipush 20) := by decide +kernel
theorem aX2_init_15 : mm_at mX2_init 15 = some (.newarray .long) := by decide +kernel
theorem aX2_init_17 : mm_at mX2_init 17 = some (.putfield 15) := by decide +kernel
theorem aX2_init_20 : mm_at mX2_init 20 = some (.return_) := by decide +kernel
theorem aX2_append_0 : mm_at mX2_append 0 = some (.aload_n 0) := by decide +kernel
theorem aX2_append_1 : mm_at mX2_append 1 = some (.getfield 19) := by decide +kernel
theorem aX2_append_4 : mm_at mX2_append 4 = some (.bipush 20) := by decide +kernel
theorem aX2_append_6 : mm_at mX2_append 6 = some (.if_icmp .lt 5) := by decide +kernel
theorem aX2_append_9 : mm_at mX2_append 9 = some (.iconst 0) := by decide +kernel
theorem aX2_append_10 : mm_at mX2_append 10 = some (.ireturn) := by decide +kernel
theorem aX2_append_11 : mm_at mX2_append 11 = some (.aload_n 0) := by decide +kernel
theorem aX2_append_12 : mm_at mX2_append 12 = some (.getfield 23) := by decide +kernel
theorem aX2_append_15 : mm_at mX2_append 15 = some (.aload_n 0) := by decide +kernel
theorem aX2_append_16 : mm_at mX2_append 16 = some (.getfield 19) := by decide +kernel
theorem aX2_append_19 : mm_at mX2_append 19 = some (.iadd) := by decide +kernel
theorem aX2_append_20 : mm_at mX2_append 20 = some (.bipush 20) := by decide +kernel
theorem aX2_append_22 : mm_at mX2_append 22 = some (.irem) := by decide +kernel
theorem aX2_append_23 : mm_at mX2_append 23 = some (.istore 4) := by decide +kernel
theorem aX2_append_25 : mm_at mX2_append 25 = some (.aload_n 0) := by decide +kernel
theorem aX2_append_26 : mm_at mX2_append 26 = some (.getfield 9) := by decide +kernel
theorem aX2_append_29 : mm_at mX2_append 29 = some (.iload 4) := by decide +kernel
theorem aX2_append_31 : mm_at mX2_append 31 = some (.iload_n 1) := by decide +kernel
theorem aX2_append_32 : mm_at mX2_append 32 = some (.iastore) := by decide +kernel
theorem aX2_append_33 : mm_at mX2_append 33 = some (.aload_n 0) := by decide +kernel
theorem aX2_append_34 : mm_at mX2_append 34 = some (.getfield 15) := by decide +kernel
theorem aX2_append_37 : mm_at mX2_append 37 = some (.iload 4) := by decide +kernel
theorem aX2_append_39 : mm_at mX2_append 39 = some (.lload_n 2) := by decide +kernel
theorem aX2_append_40 : mm_at mX2_append 40 = some (.lastore) := by decide +kernel
theorem aX2_append_41 : mm_at mX2_append 41 = some (.aload_n 0) := by decide +kernel
theorem aX2_append_42 : mm_at mX2_append 42 = some (.dup) := by decide +kernel
theorem aX2_append_43 : mm_at mX2_append 43 = some (.getfield 19) := by decide +kernel
theorem aX2_append_46 : mm_at mX2_append 46 = some (.iconst 1) := by decide +kernel
theorem aX2_append_47 : mm_at mX2_append 47 = some (.iadd) := by decide +kernel
theorem aX2_append_48 : mm_at mX2_append 48 = some (.putfield 19) := by decide +kernel
theorem aX2_append_51 : mm_at mX2_append 51 = some (.iconst 1) := by decide +kernel
theorem aX2_append_52 : mm_at mX2_append 52 = some (.ireturn) := by decide +kernel
theorem aX2_bellAt_0 : mm_at mX2_bellAt 0 = some (.iload_n 1) := by decide +kernel
theorem aX2_bellAt_1 : mm_at mX2_bellAt 1 = some (.ifCond .lt 28) := by decide +kernel
theorem aX2_bellAt_4 : mm_at mX2_bellAt 4 = some (.iload_n 1) := by decide +kernel
theorem aX2_bellAt_5 : mm_at mX2_bellAt 5 = some (.aload_n 0) := by decide +kernel
theorem aX2_bellAt_6 : mm_at mX2_bellAt 6 = some (.getfield 19) := by decide +kernel
theorem aX2_bellAt_9 : mm_at mX2_bellAt 9 = some (.if_icmp .ge 20) := by decide +kernel
theorem aX2_bellAt_12 : mm_at mX2_bellAt 12 = some (.aload_n 0) := by decide +kernel
theorem aX2_bellAt_13 : mm_at mX2_bellAt 13 = some (.getfield 9) := by decide +kernel
theorem aX2_bellAt_16 : mm_at mX2_bellAt 16 = some (.aload_n 0) := by decide +kernel
theorem aX2_bellAt_17 : mm_at mX2_bellAt 17 = some (.getfield 23) := by decide +kernel
theorem aX2_bellAt_20 : mm_at mX2_bellAt 20 = some (.iload_n 1) := by decide +kernel
theorem aX2_bellAt_21 : mm_at mX2_bellAt 21 = some (.iadd) := by decide +kernel
theorem aX2_bellAt_22 : mm_at mX2_bellAt 22 = some (.bipush 20) := by decide +kernel
theorem aX2_bellAt_24 : mm_at mX2_bellAt 24 = some (.irem) := by decide +kernel
theorem aX2_bellAt_25 : mm_at mX2_bellAt 25 = some (.iaload) := by decide +kernel
theorem aX2_bellAt_26 : mm_at mX2_bellAt 26 = some (.goto 4) := by decide +kernel
theorem aX2_bellAt_29 : mm_at mX2_bellAt 29 = some (.iconst (-1)) := by decide +kernel
theorem aX2_bellAt_30 : mm_at mX2_bellAt 30 = some (.ireturn) := by decide +kernel
theorem aX2_firstBell_0 : mm_at mX2_firstBell 0 = some (.aload_n 0) := by decide +kernel
theorem aX2_firstBell_1 : mm_at mX2_firstBell 1 = some (.getfield 9) := by decide +kernel
theorem aX2_firstBell_4 : mm_at mX2_firstBell 4 = some (.aload_n 0) := by decide +kernel
theorem aX2_firstBell_5 : mm_at mX2_firstBell 5 = some (.getfield 23) := by decide +kernel
theorem aX2_firstBell_8 : mm_at mX2_firstBell 8 = some (.iaload) := by decide +kernel
theorem aX2_firstBell_9 : mm_at mX2_firstBell 9 = some (.ireturn) := by decide +kernel
theorem aX2_firstValue_0 : mm_at mX2_firstValue 0 = some (.aload_n 0) := by decide +kernel
theorem aX2_firstValue_1 : mm_at mX2_firstValue 1 = some (.getfield 15) := by decide +kernel
theorem aX2_firstValue_4 : mm_at mX2_firstValue 4 = some (.aload_n 0) := by decide +kernel
theorem aX2_firstValue_5 : mm_at mX2_firstValue 5 = some (.getfield 23) := by decide +kernel
theorem aX2_firstValue_8 : mm_at mX2_firstValue 8 = some (.laload) := by decide +kernel
theorem aX2_firstValue_9 : mm_at mX2_firstValue 9 = some (.lreturn) := by decide +kernel
theorem aX2_dropFirst_0 : mm_at mX2_dropFirst 0 = some (.aload_n 0) := by decide +kernel
theorem aX2_dropFirst_1 : mm_at mX2_dropFirst 1 = some (.getfield 19) := by decide +kernel
theorem aX2_dropFirst_4 : mm_at mX2_dropFirst 4 = some (.ifCond .le 26) := by decide +kernel
theorem aX2_dropFirst_7 : mm_at mX2_dropFirst 7 = some (.aload_n 0) := by decide +kernel
theorem aX2_dropFirst_8 : mm_at mX2_dropFirst 8 = some (.aload_n 0) := by decide +kernel
theorem aX2_dropFirst_9 : mm_at mX2_dropFirst 9 = some (.getfield 23) := by decide +kernel
theorem aX2_dropFirst_12 : mm_at mX2_dropFirst 12 = some (.iconst 1) := by decide +kernel
theorem aX2_dropFirst_13 : mm_at mX2_dropFirst 13 = some (.iadd) := by decide +kernel
theorem aX2_dropFirst_14 : mm_at mX2_dropFirst 14 = some (.bipush 20) := by decide +kernel
theorem aX2_dropFirst_16 : mm_at mX2_dropFirst 16 = some (.irem) := by decide +kernel
theorem aX2_dropFirst_17 : mm_at mX2_dropFirst 17 = some (.putfield 23) := by decide +kernel
theorem aX2_dropFirst_20 : mm_at mX2_dropFirst 20 = some (.aload_n 0) := by decide +kernel
theorem aX2_dropFirst_21 : mm_at mX2_dropFirst 21 = some (.dup) := by decide +kernel
theorem aX2_dropFirst_22 : mm_at mX2_dropFirst 22 = some (.getfield 19) := by decide +kernel
theorem aX2_dropFirst_25 : mm_at mX2_dropFirst 25 = some (.iconst 1) := by decide +kernel
theorem aX2_dropFirst_26 : mm_at mX2_dropFirst 26 = some (.isub) := by decide +kernel
theorem aX2_dropFirst_27 : mm_at mX2_dropFirst 27 = some (.putfield 19) := by decide +kernel
theorem aX2_dropFirst_30 : mm_at mX2_dropFirst 30 = some (.return_) := by decide +kernel
theorem aX3_init_0 : mm_at mX3_init 0 = some (.aload_n 0) := by decide +kernel
theorem aX3_init_1 : mm_at mX3_init 1 = some (.invokespecial 1) := by decide +kernel
theorem aX3_init_4 : mm_at mX3_init 4 = some (.aload_n 0) := by decide +kernel
theorem aX3_init_5 : mm_at mX3_init 5 = some (.bipush 8) := by decide +kernel
theorem aX3_init_7 : mm_at mX3_init 7 = some (.newarray .long) := by decide +kernel
theorem aX3_init_9 : mm_at mX3_init 9 = some (.putfield 9) := by decide +kernel
theorem aX3_init_12 : mm_at mX3_init 12 = some (.aload_n 0) := by decide +kernel
theorem aX3_init_13 : mm_at mX3_init 13 = some (.bipush 6) := by decide +kernel
theorem aX3_init_15 : mm_at mX3_init 15 = some (.anewarray 13) := by decide +kernel
theorem aX3_init_18 : mm_at mX3_init 18 = some (.putfield 15) := by decide +kernel
theorem aX3_init_21 : mm_at mX3_init 21 = some (.aload_n 0) := by decide +kernel
theorem aX3_init_22 : mm_at mX3_init 22 = some (.new 19) := by decide +kernel
theorem aX3_init_25 : mm_at mX3_init 25 = some (.dup) := by decide +kernel
theorem aX3_init_26 : mm_at mX3_init 26 = some (.invokespecial 21) := by decide +kernel
theorem aX3_init_29 : mm_at mX3_init 29 = some (.putfield 22) := by decide +kernel
theorem aX3_init_32 : mm_at mX3_init 32 = some (.aload_n 0) := by decide +kernel
theorem aX3_init_33 : mm_at mX3_init 33 = some (.bipush 40) := by decide +kernel
theorem aX3_init_35 : mm_at mX3_init 35 = some (.anewarray 26) := by decide +kernel
theorem aX3_init_38 : mm_at mX3_init 38 = some (.putfield 28) := by decide +kernel
theorem aX3_init_41 : mm_at mX3_init 41 = some (.aload_n 0) := by decide +kernel
theorem aX3_init_42 : mm_at mX3_init 42 = some (.bipush 40) := by decide +kernel
theorem aX3_init_44 : mm_at mX3_init 44 = some (.anewarray 26) := by decide +kernel
theorem aX3_init_47 : mm_at mX3_init 47 = some (.putfield 32) := by decide +kernel
theorem aX3_init_50 : mm_at mX3_init 50 = some (.aload_n 0) := by decide +kernel
theorem aX3_init_51 : mm_at mX3_init 51 = some (.bipush 8) := by decide +kernel
theorem aX3_init_53 : mm_at mX3_init 53 = some (.bipush 12) := by decide +kernel
theorem aX3_init_55 : mm_at mX3_init 55 = some (.multianewarray 35 2) := by decide +kernel
theorem aX3_init_59 : mm_at mX3_init 59 = some (.putfield 37) := by decide +kernel
theorem aX3_init_62 : mm_at mX3_init 62 = some (.iconst 0) := by decide +kernel
theorem aX3_init_63 : mm_at mX3_init 63 = some (.istore_n 1) := by decide +kernel
theorem aX3_init_64 : mm_at mX3_init 64 = some (.iload_n 1) := by decide +kernel
theorem aX3_init_65 : mm_at mX3_init 65 = some (.bipush 6) := by decide +kernel
theorem aX3_init_67 : mm_at mX3_init 67 = some (.if_icmp .ge 22) := by decide +kernel
theorem aX3_init_70 : mm_at mX3_init 70 = some (.aload_n 0) := by decide +kernel
theorem aX3_init_71 : mm_at mX3_init 71 = some (.getfield 15) := by decide +kernel
theorem aX3_init_74 : mm_at mX3_init 74 = some (.iload_n 1) := by decide +kernel
theorem aX3_init_75 : mm_at mX3_init 75 = some (.new 13) := by decide +kernel
theorem aX3_init_78 : mm_at mX3_init 78 = some (.dup) := by decide +kernel
theorem aX3_init_79 : mm_at mX3_init 79 = some (.invokespecial 40) := by decide +kernel
theorem aX3_init_82 : mm_at mX3_init 82 = some (.aastore) := by decide +kernel
theorem aX3_init_83 : mm_at mX3_init 83 = some (.iinc 1 1) := by decide +kernel
theorem aX3_init_86 : mm_at mX3_init 86 = some (.goto (-22)) := by decide +kernel
theorem aX3_init_89 : mm_at mX3_init 89 = some (.aload_n 0) := by decide +kernel
theorem aX3_init_90 : mm_at mX3_init 90 = some (.iconst 0) := by decide +kernel
theorem aX3_init_91 : mm_at mX3_init 91 = some (.iconst 0) := by decide +kernel
theorem aX3_init_92 : mm_at mX3_init 92 = some (.iconst 0) := by decide +kernel
theorem aX3_init_93 : mm_at mX3_init 93 = some (.invokevirtual 41) := by decide +kernel
theorem aX3_init_96 : mm_at mX3_init 96 = some (.pop) := by decide +kernel
theorem aX3_init_97 : mm_at mX3_init 97 = some (.aload_n 0) := by decide +kernel
theorem aX3_init_98 : mm_at mX3_init 98 = some (.bipush 7) := by decide +kernel
theorem aX3_init_100 : mm_at mX3_init 100 = some (.iconst 0) := by decide +kernel
theorem aX3_init_101 : mm_at mX3_init 101 = some (.iconst 0) := by decide +kernel
theorem aX3_init_102 : mm_at mX3_init 102 = some (.invokevirtual 41) := by decide +kernel
theorem aX3_init_105 : mm_at mX3_init 105 = some (.pop) := by decide +kernel
theorem aX3_init_106 : mm_at mX3_init 106 = some (.return_) := by decide +kernel
theorem aX3_tally_0 : mm_at mX3_tally 0 = some (.iload_n 1) := by decide +kernel
theorem aX3_tally_1 : mm_at mX3_tally 1 = some (.i2l) := by decide +kernel
theorem aX3_tally_2 : mm_at mX3_tally 2 = some (.invokestatic 45) := by decide +kernel
theorem aX3_tally_5 : mm_at mX3_tally 5 = some (.ifCond .ne 6) := by decide +kernel
theorem aX3_tally_8 : mm_at mX3_tally 8 = some (.bipush (-2)) := by decide +kernel
theorem aX3_tally_10 : mm_at mX3_tally 10 = some (.ireturn) := by decide +kernel
theorem aX3_tally_11 : mm_at mX3_tally 11 = some (.aload_n 0) := by decide +kernel
theorem aX3_tally_12 : mm_at mX3_tally 12 = some (.getfield 9) := by decide +kernel
theorem aX3_tally_15 : mm_at mX3_tally 15 = some (.iload_n 1) := by decide +kernel
theorem aX3_tally_16 : mm_at mX3_tally 16 = some (.lload_n 2) := by decide +kernel
theorem aX3_tally_17 : mm_at mX3_tally 17 = some (.lastore) := by decide +kernel
theorem aX3_tally_18 : mm_at mX3_tally 18 = some (.iconst 1) := by decide +kernel
theorem aX3_tally_19 : mm_at mX3_tally 19 = some (.ireturn) := by decide +kernel
theorem aX3_way_0 : mm_at mX3_way 0 = some (.iload_n 1) := by decide +kernel
theorem aX3_way_1 : mm_at mX3_way 1 = some (.invokestatic 49) := by decide +kernel
theorem aX3_way_4 : mm_at mX3_way 4 = some (.ifCond .eq 12) := by decide +kernel
theorem aX3_way_7 : mm_at mX3_way 7 = some (.iload_n 2) := by decide +kernel
theorem aX3_way_8 : mm_at mX3_way 8 = some (.ifCond .eq 11) := by decide +kernel
theorem aX3_way_11 : mm_at mX3_way 11 = some (.iload_n 2) := by decide +kernel
theorem aX3_way_12 : mm_at mX3_way 12 = some (.iconst 1) := by decide +kernel
theorem aX3_way_13 : mm_at mX3_way 13 = some (.if_icmp .eq 6) := by decide +kernel
theorem aX3_way_16 : mm_at mX3_way 16 = some (.bipush (-2)) := by decide +kernel
theorem aX3_way_18 : mm_at mX3_way 18 = some (.ireturn) := by decide +kernel
theorem aX3_way_19 : mm_at mX3_way 19 = some (.aload_n 0) := by decide +kernel
theorem aX3_way_20 : mm_at mX3_way 20 = some (.getfield 15) := by decide +kernel
theorem aX3_way_23 : mm_at mX3_way 23 = some (.iload_n 1) := by decide +kernel
theorem aX3_way_24 : mm_at mX3_way 24 = some (.aaload) := by decide +kernel
theorem aX3_way_25 : mm_at mX3_way 25 = some (.getfield 53) := by decide +kernel
theorem aX3_way_28 : mm_at mX3_way 28 = some (.istore_n 3) := by decide +kernel
theorem aX3_way_29 : mm_at mX3_way 29 = some (.aload_n 0) := by decide +kernel
theorem aX3_way_30 : mm_at mX3_way 30 = some (.getfield 15) := by decide +kernel
theorem aX3_way_33 : mm_at mX3_way 33 = some (.iload_n 1) := by decide +kernel
theorem aX3_way_34 : mm_at mX3_way 34 = some (.aaload) := by decide +kernel
theorem aX3_way_35 : mm_at mX3_way 35 = some (.iload_n 2) := by decide +kernel
theorem aX3_way_36 : mm_at mX3_way 36 = some (.putfield 53) := by decide +kernel
theorem aX3_way_39 : mm_at mX3_way 39 = some (.iload_n 3) := by decide +kernel
theorem aX3_way_40 : mm_at mX3_way 40 = some (.ireturn) := by decide +kernel
theorem aX3_hearer_0 : mm_at mX3_hearer 0 = some (.aload_n 0) := by decide +kernel
theorem aX3_hearer_1 : mm_at mX3_hearer 1 = some (.iload_n 1) := by decide +kernel
theorem aX3_hearer_2 : mm_at mX3_hearer 2 = some (.iload_n 2) := by decide +kernel
theorem aX3_hearer_3 : mm_at mX3_hearer 3 = some (.iload_n 3) := by decide +kernel
theorem aX3_hearer_4 : mm_at mX3_hearer 4 = some (.invokevirtual 57) := by decide +kernel
theorem aX3_hearer_7 : mm_at mX3_hearer 7 = some (.ifCond .ne 6) := by decide +kernel
theorem aX3_hearer_10 : mm_at mX3_hearer 10 = some (.bipush (-2)) := by decide +kernel
theorem aX3_hearer_12 : mm_at mX3_hearer 12 = some (.ireturn) := by decide +kernel
theorem aX3_hearer_13 : mm_at mX3_hearer 13 = some (.aload_n 0) := by decide +kernel
theorem aX3_hearer_14 : mm_at mX3_hearer 14 = some (.getfield 61) := by decide +kernel
theorem aX3_hearer_17 : mm_at mX3_hearer 17 = some (.bipush 40) := by decide +kernel
theorem aX3_hearer_19 : mm_at mX3_hearer 19 = some (.if_icmp .lt 8) := by decide +kernel
theorem aX3_hearer_22 : mm_at mX3_hearer 22 = some (.bipush (-3)) := by decide +kernel
theorem aX3_hearer_24 : mm_at mX3_hearer 24 = some (.goto 10) := by decide +kernel
theorem aX3_hearer_27 : mm_at mX3_hearer 27 = some (.aload_n 0) := by decide +kernel
theorem aX3_hearer_28 : mm_at mX3_hearer 28 = some (.iload_n 1) := by decide +kernel
theorem aX3_hearer_29 : mm_at mX3_hearer 29 = some (.iload_n 2) := by decide +kernel
theorem aX3_hearer_30 : mm_at mX3_hearer 30 = some (.iload_n 3) := by decide +kernel
theorem aX3_hearer_31 : mm_at mX3_hearer 31 = some (.invokevirtual 41) := by decide +kernel
theorem aX3_hearer_34 : mm_at mX3_hearer 34 = some (.ireturn) := by decide +kernel
theorem aX3_bind_0 : mm_at mX3_bind 0 = some (.aload_n 0) := by decide +kernel
theorem aX3_bind_1 : mm_at mX3_bind 1 = some (.iload_n 1) := by decide +kernel
theorem aX3_bind_2 : mm_at mX3_bind 2 = some (.invokevirtual 64) := by decide +kernel
theorem aX3_bind_5 : mm_at mX3_bind 5 = some (.ifCond .eq 23) := by decide +kernel
theorem aX3_bind_8 : mm_at mX3_bind 8 = some (.iload_n 2) := by decide +kernel
theorem aX3_bind_9 : mm_at mX3_bind 9 = some (.invokestatic 49) := by decide +kernel
theorem aX3_bind_12 : mm_at mX3_bind 12 = some (.ifCond .eq 16) := by decide +kernel
theorem aX3_bind_15 : mm_at mX3_bind 15 = some (.aload_n 0) := by decide +kernel
theorem aX3_bind_16 : mm_at mX3_bind 16 = some (.getfield 15) := by decide +kernel
theorem aX3_bind_19 : mm_at mX3_bind 19 = some (.iload_n 2) := by decide +kernel
theorem aX3_bind_20 : mm_at mX3_bind 20 = some (.aaload) := by decide +kernel
theorem aX3_bind_21 : mm_at mX3_bind 21 = some (.iload_n 1) := by decide +kernel
theorem aX3_bind_22 : mm_at mX3_bind 22 = some (.invokevirtual 67) := by decide +kernel
theorem aX3_bind_25 : mm_at mX3_bind 25 = some (.goto 5) := by decide +kernel
theorem aX3_bind_28 : mm_at mX3_bind 28 = some (.bipush (-2)) := by decide +kernel
theorem aX3_bind_30 : mm_at mX3_bind 30 = some (.ireturn) := by decide +kernel
theorem aX3_leave_0 : mm_at mX3_leave 0 = some (.aload_n 0) := by decide +kernel
theorem aX3_leave_1 : mm_at mX3_leave 1 = some (.iload_n 1) := by decide +kernel
theorem aX3_leave_2 : mm_at mX3_leave 2 = some (.invokevirtual 64) := by decide +kernel
theorem aX3_leave_5 : mm_at mX3_leave 5 = some (.ifCond .eq 23) := by decide +kernel
theorem aX3_leave_8 : mm_at mX3_leave 8 = some (.iload_n 2) := by decide +kernel
theorem aX3_leave_9 : mm_at mX3_leave 9 = some (.invokestatic 49) := by decide +kernel
theorem aX3_leave_12 : mm_at mX3_leave 12 = some (.ifCond .eq 16) := by decide +kernel
theorem aX3_leave_15 : mm_at mX3_leave 15 = some (.aload_n 0) := by decide +kernel
theorem aX3_leave_16 : mm_at mX3_leave 16 = some (.getfield 15) := by decide +kernel
theorem aX3_leave_19 : mm_at mX3_leave 19 = some (.iload_n 2) := by decide +kernel
theorem aX3_leave_20 : mm_at mX3_leave 20 = some (.aaload) := by decide +kernel
theorem aX3_leave_21 : mm_at mX3_leave 21 = some (.iload_n 1) := by decide +kernel
theorem aX3_leave_22 : mm_at mX3_leave 22 = some (.invokevirtual 71) := by decide +kernel
theorem aX3_leave_25 : mm_at mX3_leave 25 = some (.goto 5) := by decide +kernel
theorem aX3_leave_28 : mm_at mX3_leave 28 = some (.bipush (-2)) := by decide +kernel
theorem aX3_leave_30 : mm_at mX3_leave 30 = some (.ireturn) := by decide +kernel
theorem aX3_take_0 : mm_at mX3_take 0 = some (.aload_n 0) := by decide +kernel
theorem aX3_take_1 : mm_at mX3_take 1 = some (.iload_n 1) := by decide +kernel
theorem aX3_take_2 : mm_at mX3_take 2 = some (.invokevirtual 64) := by decide +kernel
theorem aX3_take_5 : mm_at mX3_take 5 = some (.ifCond .ne 6) := by decide +kernel
theorem aX3_take_8 : mm_at mX3_take 8 = some (.bipush (-2)) := by decide +kernel
theorem aX3_take_10 : mm_at mX3_take 10 = some (.ireturn) := by decide +kernel
theorem aX3_take_11 : mm_at mX3_take 11 = some (.aload_n 0) := by decide +kernel
theorem aX3_take_12 : mm_at mX3_take 12 = some (.getfield 32) := by decide +kernel
theorem aX3_take_15 : mm_at mX3_take 15 = some (.iload_n 1) := by decide +kernel
theorem aX3_take_16 : mm_at mX3_take 16 = some (.aaload) := by decide +kernel
theorem aX3_take_17 : mm_at mX3_take 17 = some (.ifnonnull 7) := by decide +kernel
theorem aX3_take_20 : mm_at mX3_take 20 = some (.iconst 0) := by decide +kernel
theorem aX3_take_21 : mm_at mX3_take 21 = some (.goto 4) := by decide +kernel
theorem aX3_take_24 : mm_at mX3_take 24 = some (.iconst 1) := by decide +kernel
theorem aX3_take_25 : mm_at mX3_take 25 = some (.istore_n 2) := by decide +kernel
theorem aX3_take_26 : mm_at mX3_take 26 = some (.aload_n 0) := by decide +kernel
theorem aX3_take_27 : mm_at mX3_take 27 = some (.getfield 32) := by decide +kernel
theorem aX3_take_30 : mm_at mX3_take 30 = some (.iload_n 1) := by decide +kernel
theorem aX3_take_31 : mm_at mX3_take 31 = some (.aconst_null) := by decide +kernel
theorem aX3_take_32 : mm_at mX3_take 32 = some (.aastore) := by decide +kernel
theorem aX3_take_33 : mm_at mX3_take 33 = some (.iload_n 2) := by decide +kernel
theorem aX3_take_34 : mm_at mX3_take 34 = some (.ireturn) := by decide +kernel
theorem aX3_lend_0 : mm_at mX3_lend 0 = some (.aload_n 0) := by decide +kernel
theorem aX3_lend_1 : mm_at mX3_lend 1 = some (.iload_n 1) := by decide +kernel
theorem aX3_lend_2 : mm_at mX3_lend 2 = some (.invokevirtual 64) := by decide +kernel
theorem aX3_lend_5 : mm_at mX3_lend 5 = some (.ifCond .eq 11) := by decide +kernel
theorem aX3_lend_8 : mm_at mX3_lend 8 = some (.aload_n 0) := by decide +kernel
theorem aX3_lend_9 : mm_at mX3_lend 9 = some (.iload_n 2) := by decide +kernel
theorem aX3_lend_10 : mm_at mX3_lend 10 = some (.invokevirtual 64) := by decide +kernel
theorem aX3_lend_13 : mm_at mX3_lend 13 = some (.ifCond .ne 6) := by decide +kernel
theorem aX3_lend_16 : mm_at mX3_lend 16 = some (.bipush (-2)) := by decide +kernel
theorem aX3_lend_18 : mm_at mX3_lend 18 = some (.ireturn) := by decide +kernel
theorem aX3_lend_19 : mm_at mX3_lend 19 = some (.aload_n 0) := by decide +kernel
theorem aX3_lend_20 : mm_at mX3_lend 20 = some (.getfield 32) := by decide +kernel
theorem aX3_lend_23 : mm_at mX3_lend 23 = some (.iload_n 1) := by decide +kernel
theorem aX3_lend_24 : mm_at mX3_lend 24 = some (.aload_n 0) := by decide +kernel
theorem aX3_lend_25 : mm_at mX3_lend 25 = some (.getfield 32) := by decide +kernel
theorem aX3_lend_28 : mm_at mX3_lend 28 = some (.iload_n 2) := by decide +kernel
theorem aX3_lend_29 : mm_at mX3_lend 29 = some (.aaload) := by decide +kernel
theorem aX3_lend_30 : mm_at mX3_lend 30 = some (.aastore) := by decide +kernel
theorem aX3_lend_31 : mm_at mX3_lend 31 = some (.iconst 1) := by decide +kernel
theorem aX3_lend_32 : mm_at mX3_lend 32 = some (.ireturn) := by decide +kernel
theorem aX3_ring_0 : mm_at mX3_ring 0 = some (.iload_n 1) := by decide +kernel
theorem aX3_ring_1 : mm_at mX3_ring 1 = some (.invokestatic 49) := by decide +kernel
theorem aX3_ring_4 : mm_at mX3_ring 4 = some (.ifCond .ne 6) := by decide +kernel
theorem aX3_ring_7 : mm_at mX3_ring 7 = some (.bipush (-2)) := by decide +kernel
theorem aX3_ring_9 : mm_at mX3_ring 9 = some (.ireturn) := by decide +kernel
theorem aX3_ring_10 : mm_at mX3_ring 10 = some (.aload_n 0) := by decide +kernel
theorem aX3_ring_11 : mm_at mX3_ring 11 = some (.getfield 74) := by decide +kernel
theorem aX3_ring_14 : mm_at mX3_ring 14 = some (.sipush 2000) := by decide +kernel
theorem aX3_ring_17 : mm_at mX3_ring 17 = some (.if_icmp .lt 6) := by decide +kernel
theorem aX3_ring_20 : mm_at mX3_ring 20 = some (.bipush (-3)) := by decide +kernel
theorem aX3_ring_22 : mm_at mX3_ring 22 = some (.ireturn) := by decide +kernel
theorem aX3_ring_23 : mm_at mX3_ring 23 = some (.aload_n 0) := by decide +kernel
theorem aX3_ring_24 : mm_at mX3_ring 24 = some (.iconst 0) := by decide +kernel
theorem aX3_ring_25 : mm_at mX3_ring 25 = some (.putfield 77) := by decide +kernel
theorem aX3_ring_28 : mm_at mX3_ring 28 = some (.aload_n 0) := by decide +kernel
theorem aX3_ring_29 : mm_at mX3_ring 29 = some (.aload_n 0) := by decide +kernel
theorem aX3_ring_30 : mm_at mX3_ring 30 = some (.aload_n 0) := by decide +kernel
theorem aX3_ring_31 : mm_at mX3_ring 31 = some (.iload_n 1) := by decide +kernel
theorem aX3_ring_32 : mm_at mX3_ring 32 = some (.lload_n 2) := by decide +kernel
theorem aX3_ring_33 : mm_at mX3_ring 33 = some (.invokevirtual 80) := by decide +kernel
theorem aX3_ring_36 : mm_at mX3_ring 36 = some (.invokevirtual 84) := by decide +kernel
theorem aX3_ring_39 : mm_at mX3_ring 39 = some (.invokevirtual 87) := by decide +kernel
theorem aX3_ring_42 : mm_at mX3_ring 42 = some (.ireturn) := by decide +kernel
theorem aX3_drain_0 : mm_at mX3_drain 0 = some (.aload_n 0) := by decide +kernel
theorem aX3_drain_1 : mm_at mX3_drain 1 = some (.getfield 74) := by decide +kernel
theorem aX3_drain_4 : mm_at mX3_drain 4 = some (.sipush 2000) := by decide +kernel
theorem aX3_drain_7 : mm_at mX3_drain 7 = some (.if_icmp .lt 6) := by decide +kernel
theorem aX3_drain_10 : mm_at mX3_drain 10 = some (.bipush (-3)) := by decide +kernel
theorem aX3_drain_12 : mm_at mX3_drain 12 = some (.ireturn) := by decide +kernel
theorem aX3_drain_13 : mm_at mX3_drain 13 = some (.aload_n 0) := by decide +kernel
theorem aX3_drain_14 : mm_at mX3_drain 14 = some (.iconst 0) := by decide +kernel
theorem aX3_drain_15 : mm_at mX3_drain 15 = some (.putfield 77) := by decide +kernel
theorem aX3_drain_18 : mm_at mX3_drain 18 = some (.aload_n 0) := by decide +kernel
theorem aX3_drain_19 : mm_at mX3_drain 19 = some (.aload_n 0) := by decide +kernel
theorem aX3_drain_20 : mm_at mX3_drain 20 = some (.iconst 0) := by decide +kernel
theorem aX3_drain_21 : mm_at mX3_drain 21 = some (.invokevirtual 84) := by decide +kernel
theorem aX3_drain_24 : mm_at mX3_drain 24 = some (.invokevirtual 87) := by decide +kernel
theorem aX3_drain_27 : mm_at mX3_drain 27 = some (.ireturn) := by decide +kernel
theorem aX3_act_0 : mm_at mX3_act 0 = some (.aload_n 0) := by decide +kernel
theorem aX3_act_1 : mm_at mX3_act 1 = some (.iload_n 1) := by decide +kernel
theorem aX3_act_2 : mm_at mX3_act 2 = some (.invokevirtual 64) := by decide +kernel
theorem aX3_act_5 : mm_at mX3_act 5 = some (.ifCond .ne 6) := by decide +kernel
theorem aX3_act_8 : mm_at mX3_act 8 = some (.bipush (-2)) := by decide +kernel
theorem aX3_act_10 : mm_at mX3_act 10 = some (.ireturn) := by decide +kernel
theorem aX3_act_11 : mm_at mX3_act 11 = some (.aload_n 0) := by decide +kernel
theorem aX3_act_12 : mm_at mX3_act 12 = some (.getfield 74) := by decide +kernel
theorem aX3_act_15 : mm_at mX3_act 15 = some (.sipush 2000) := by decide +kernel
theorem aX3_act_18 : mm_at mX3_act 18 = some (.if_icmp .lt 6) := by decide +kernel
theorem aX3_act_21 : mm_at mX3_act 21 = some (.bipush (-3)) := by decide +kernel
theorem aX3_act_23 : mm_at mX3_act 23 = some (.ireturn) := by decide +kernel
theorem aX3_act_24 : mm_at mX3_act 24 = some (.aload_n 0) := by decide +kernel
theorem aX3_act_25 : mm_at mX3_act 25 = some (.iconst 0) := by decide +kernel
theorem aX3_act_26 : mm_at mX3_act 26 = some (.putfield 77) := by decide +kernel
theorem aX3_act_29 : mm_at mX3_act 29 = some (.aload_n 0) := by decide +kernel
theorem aX3_act_30 : mm_at mX3_act 30 = some (.aload_n 0) := by decide +kernel
theorem aX3_act_31 : mm_at mX3_act 31 = some (.aload_n 0) := by decide +kernel
theorem aX3_act_32 : mm_at mX3_act 32 = some (.aload_n 0) := by decide +kernel
theorem aX3_act_33 : mm_at mX3_act 33 = some (.getfield 32) := by decide +kernel
theorem aX3_act_36 : mm_at mX3_act 36 = some (.iload_n 1) := by decide +kernel
theorem aX3_act_37 : mm_at mX3_act 37 = some (.aaload) := by decide +kernel
theorem aX3_act_38 : mm_at mX3_act 38 = some (.lload_n 2) := by decide +kernel
theorem aX3_act_39 : mm_at mX3_act 39 = some (.invokevirtual 90) := by decide +kernel
theorem aX3_act_42 : mm_at mX3_act 42 = some (.invokestatic 94) := by decide +kernel
theorem aX3_act_45 : mm_at mX3_act 45 = some (.invokevirtual 84) := by decide +kernel
theorem aX3_act_48 : mm_at mX3_act 48 = some (.invokevirtual 87) := by decide +kernel
theorem aX3_act_51 : mm_at mX3_act 51 = some (.ireturn) := by decide +kernel
theorem aX3_get_0 : mm_at mX3_get 0 = some (.iload_n 1) := by decide +kernel
theorem aX3_get_1 : mm_at mX3_get 1 = some (.i2l) := by decide +kernel
theorem aX3_get_2 : mm_at mX3_get 2 = some (.invokestatic 45) := by decide +kernel
theorem aX3_get_5 : mm_at mX3_get 5 = some (.ifCond .eq 12) := by decide +kernel
theorem aX3_get_8 : mm_at mX3_get 8 = some (.aload_n 0) := by decide +kernel
theorem aX3_get_9 : mm_at mX3_get 9 = some (.getfield 9) := by decide +kernel
theorem aX3_get_12 : mm_at mX3_get 12 = some (.iload_n 1) := by decide +kernel
theorem aX3_get_13 : mm_at mX3_get 13 = some (.laload) := by decide +kernel
theorem aX3_get_14 : mm_at mX3_get 14 = some (.goto 4) := by decide +kernel
theorem aX3_get_17 : mm_at mX3_get 17 = some (.lconst 0) := by decide +kernel
theorem aX3_get_18 : mm_at mX3_get 18 = some (.lreturn) := by decide +kernel
theorem aX3_line_0 : mm_at mX3_line 0 = some (.iload_n 1) := by decide +kernel
theorem aX3_line_1 : mm_at mX3_line 1 = some (.invokestatic 49) := by decide +kernel
theorem aX3_line_4 : mm_at mX3_line 4 = some (.ifCond .eq 16) := by decide +kernel
theorem aX3_line_7 : mm_at mX3_line 7 = some (.aload_n 0) := by decide +kernel
theorem aX3_line_8 : mm_at mX3_line 8 = some (.getfield 15) := by decide +kernel
theorem aX3_line_11 : mm_at mX3_line 11 = some (.iload_n 1) := by decide +kernel
theorem aX3_line_12 : mm_at mX3_line 12 = some (.aaload) := by decide +kernel
theorem aX3_line_13 : mm_at mX3_line 13 = some (.iload_n 2) := by decide +kernel
theorem aX3_line_14 : mm_at mX3_line 14 = some (.invokevirtual 97) := by decide +kernel
theorem aX3_line_17 : mm_at mX3_line 17 = some (.goto 5) := by decide +kernel
theorem aX3_line_20 : mm_at mX3_line 20 = some (.bipush (-2)) := by decide +kernel
theorem aX3_line_22 : mm_at mX3_line 22 = some (.ireturn) := by decide +kernel
theorem aX3_queued_0 : mm_at mX3_queued 0 = some (.aload_n 0) := by decide +kernel
theorem aX3_queued_1 : mm_at mX3_queued 1 = some (.getfield 22) := by decide +kernel
theorem aX3_queued_4 : mm_at mX3_queued 4 = some (.iload_n 1) := by decide +kernel
theorem aX3_queued_5 : mm_at mX3_queued 5 = some (.invokevirtual 100) := by decide +kernel
theorem aX3_queued_8 : mm_at mX3_queued 8 = some (.ireturn) := by decide +kernel
theorem aX3_count_0 : mm_at mX3_count 0 = some (.iload_n 1) := by decide +kernel
theorem aX3_count_1 : mm_at mX3_count 1 = some (.tableswitch 108 0 9 #[55, 60, 65, 70, 75, 80, 85, 90, 98, 103]) := by decide +kernel
theorem aX3_count_56 : mm_at mX3_count 56 = some (.aload_n 0) := by decide +kernel
theorem aX3_count_57 : mm_at mX3_count 57 = some (.getfield 61) := by decide +kernel
theorem aX3_count_60 : mm_at mX3_count 60 = some (.ireturn) := by decide +kernel
theorem aX3_count_61 : mm_at mX3_count 61 = some (.aload_n 0) := by decide +kernel
theorem aX3_count_62 : mm_at mX3_count 62 = some (.getfield 103) := by decide +kernel
theorem aX3_count_65 : mm_at mX3_count 65 = some (.ireturn) := by decide +kernel
theorem aX3_count_66 : mm_at mX3_count 66 = some (.aload_n 0) := by decide +kernel
theorem aX3_count_67 : mm_at mX3_count 67 = some (.getfield 106) := by decide +kernel
theorem aX3_count_70 : mm_at mX3_count 70 = some (.ireturn) := by decide +kernel
theorem aX3_count_71 : mm_at mX3_count 71 = some (.aload_n 0) := by decide +kernel
theorem aX3_count_72 : mm_at mX3_count 72 = some (.getfield 109) := by decide +kernel
theorem aX3_count_75 : mm_at mX3_count 75 = some (.ireturn) := by decide +kernel
theorem aX3_count_76 : mm_at mX3_count 76 = some (.aload_n 0) := by decide +kernel
theorem aX3_count_77 : mm_at mX3_count 77 = some (.getfield 112) := by decide +kernel
theorem aX3_count_80 : mm_at mX3_count 80 = some (.ireturn) := by decide +kernel
theorem aX3_count_81 : mm_at mX3_count 81 = some (.aload_n 0) := by decide +kernel
theorem aX3_count_82 : mm_at mX3_count 82 = some (.getfield 115) := by decide +kernel
theorem aX3_count_85 : mm_at mX3_count 85 = some (.ireturn) := by decide +kernel
theorem aX3_count_86 : mm_at mX3_count 86 = some (.aload_n 0) := by decide +kernel
theorem aX3_count_87 : mm_at mX3_count 87 = some (.getfield 118) := by decide +kernel
theorem aX3_count_90 : mm_at mX3_count 90 = some (.ireturn) := by decide +kernel
theorem aX3_count_91 : mm_at mX3_count 91 = some (.aload_n 0) := by decide +kernel
theorem aX3_count_92 : mm_at mX3_count 92 = some (.getfield 22) := by decide +kernel
theorem aX3_count_95 : mm_at mX3_count 95 = some (.getfield 121) := by decide +kernel
theorem aX3_count_98 : mm_at mX3_count 98 = some (.ireturn) := by decide +kernel
theorem aX3_count_99 : mm_at mX3_count 99 = some (.aload_n 0) := by decide +kernel
theorem aX3_count_100 : mm_at mX3_count 100 = some (.getfield 124) := by decide +kernel
theorem aX3_count_103 : mm_at mX3_count 103 = some (.ireturn) := by decide +kernel
theorem aX3_count_104 : mm_at mX3_count 104 = some (.aload_n 0) := by decide +kernel
theorem aX3_count_105 : mm_at mX3_count 105 = some (.getfield 74) := by decide +kernel
theorem aX3_count_108 : mm_at mX3_count 108 = some (.ireturn) := by decide +kernel
theorem aX3_count_109 : mm_at mX3_count 109 = some (.bipush (-2)) := by decide +kernel
theorem aX3_count_111 : mm_at mX3_count 111 = some (.ireturn) := by decide +kernel
theorem aX3_done_0 : mm_at mX3_done 0 = some (.aload_n 0) := by decide +kernel
theorem aX3_done_1 : mm_at mX3_done 1 = some (.iload_n 1) := by decide +kernel
theorem aX3_done_2 : mm_at mX3_done 2 = some (.invokevirtual 64) := by decide +kernel
theorem aX3_done_5 : mm_at mX3_done 5 = some (.ifCond .eq 15) := by decide +kernel
theorem aX3_done_8 : mm_at mX3_done 8 = some (.aload_n 0) := by decide +kernel
theorem aX3_done_9 : mm_at mX3_done 9 = some (.getfield 28) := by decide +kernel
theorem aX3_done_12 : mm_at mX3_done 12 = some (.iload_n 1) := by decide +kernel
theorem aX3_done_13 : mm_at mX3_done 13 = some (.aaload) := by decide +kernel
theorem aX3_done_14 : mm_at mX3_done 14 = some (.getfield 127) := by decide +kernel
theorem aX3_done_17 : mm_at mX3_done 17 = some (.goto 5) := by decide +kernel
theorem aX3_done_20 : mm_at mX3_done 20 = some (.bipush (-2)) := by decide +kernel
theorem aX3_done_22 : mm_at mX3_done 22 = some (.ireturn) := by decide +kernel
theorem aX3_isTally_0 : mm_at mX3_isTally 0 = some (.lload_n 0) := by decide +kernel
theorem aX3_isTally_1 : mm_at mX3_isTally 1 = some (.lconst 0) := by decide +kernel
theorem aX3_isTally_2 : mm_at mX3_isTally 2 = some (.lcmp) := by decide +kernel
theorem aX3_isTally_3 : mm_at mX3_isTally 3 = some (.ifCond .lt 15) := by decide +kernel
theorem aX3_isTally_6 : mm_at mX3_isTally 6 = some (.lload_n 0) := by decide +kernel
theorem aX3_isTally_7 : mm_at mX3_isTally 7 = some (.ldc2_w 130) := by decide +kernel
theorem aX3_isTally_10 : mm_at mX3_isTally 10 = some (.lcmp) := by decide +kernel
theorem aX3_isTally_11 : mm_at mX3_isTally 11 = some (.ifCond .ge 7) := by decide +kernel
theorem aX3_isTally_14 : mm_at mX3_isTally 14 = some (.iconst 1) := by decide +kernel
theorem aX3_isTally_15 : mm_at mX3_isTally 15 = some (.goto 4) := by decide +kernel
theorem aX3_isTally_18 : mm_at mX3_isTally 18 = some (.iconst 0) := by decide +kernel
theorem aX3_isTally_19 : mm_at mX3_isTally 19 = some (.ireturn) := by decide +kernel
theorem aX3_isBell_0 : mm_at mX3_isBell 0 = some (.iload_n 0) := by decide +kernel
theorem aX3_isBell_1 : mm_at mX3_isBell 1 = some (.ifCond .lt 13) := by decide +kernel
theorem aX3_isBell_4 : mm_at mX3_isBell 4 = some (.iload_n 0) := by decide +kernel
theorem aX3_isBell_5 : mm_at mX3_isBell 5 = some (.bipush 6) := by decide +kernel
theorem aX3_isBell_7 : mm_at mX3_isBell 7 = some (.if_icmp .ge 7) := by decide +kernel
theorem aX3_isBell_10 : mm_at mX3_isBell 10 = some (.iconst 1) := by decide +kernel
theorem aX3_isBell_11 : mm_at mX3_isBell 11 = some (.goto 4) := by decide +kernel
theorem aX3_isBell_14 : mm_at mX3_isBell 14 = some (.iconst 0) := by decide +kernel
theorem aX3_isBell_15 : mm_at mX3_isBell 15 = some (.ireturn) := by decide +kernel
theorem aX3_isHearer_0 : mm_at mX3_isHearer 0 = some (.iload_n 1) := by decide +kernel
theorem aX3_isHearer_1 : mm_at mX3_isHearer 1 = some (.ifCond .lt 15) := by decide +kernel
theorem aX3_isHearer_4 : mm_at mX3_isHearer 4 = some (.iload_n 1) := by decide +kernel
theorem aX3_isHearer_5 : mm_at mX3_isHearer 5 = some (.aload_n 0) := by decide +kernel
theorem aX3_isHearer_6 : mm_at mX3_isHearer 6 = some (.getfield 61) := by decide +kernel
theorem aX3_isHearer_9 : mm_at mX3_isHearer 9 = some (.if_icmp .ge 7) := by decide +kernel
theorem aX3_isHearer_12 : mm_at mX3_isHearer 12 = some (.iconst 1) := by decide +kernel
theorem aX3_isHearer_13 : mm_at mX3_isHearer 13 = some (.goto 4) := by decide +kernel
theorem aX3_isHearer_16 : mm_at mX3_isHearer 16 = some (.iconst 0) := by decide +kernel
theorem aX3_isHearer_17 : mm_at mX3_isHearer 17 = some (.ireturn) := by decide +kernel
theorem aX3_canBeMade_0 : mm_at mX3_canBeMade 0 = some (.iload_n 1) := by decide +kernel
theorem aX3_canBeMade_1 : mm_at mX3_canBeMade 1 = some (.tableswitch 159 0 14 #[75, 75, 75, 75, 81, 83, 83, 81, 88, 88, 94, 116, 94, 88, 138]) := by decide +kernel
theorem aX3_canBeMade_76 : mm_at mX3_canBeMade 76 = some (.iload_n 2) := by decide +kernel
theorem aX3_canBeMade_77 : mm_at mX3_canBeMade 77 = some (.i2l) := by decide +kernel
theorem aX3_canBeMade_78 : mm_at mX3_canBeMade 78 = some (.invokestatic 45) := by decide +kernel
theorem aX3_canBeMade_81 : mm_at mX3_canBeMade 81 = some (.ireturn) := by decide +kernel
theorem aX3_canBeMade_82 : mm_at mX3_canBeMade 82 = some (.iconst 1) := by decide +kernel
theorem aX3_canBeMade_83 : mm_at mX3_canBeMade 83 = some (.ireturn) := by decide +kernel
theorem aX3_canBeMade_84 : mm_at mX3_canBeMade 84 = some (.iload_n 2) := by decide +kernel
theorem aX3_canBeMade_85 : mm_at mX3_canBeMade 85 = some (.invokestatic 49) := by decide +kernel
theorem aX3_canBeMade_88 : mm_at mX3_canBeMade 88 = some (.ireturn) := by decide +kernel
theorem aX3_canBeMade_89 : mm_at mX3_canBeMade 89 = some (.aload_n 0) := by decide +kernel
theorem aX3_canBeMade_90 : mm_at mX3_canBeMade 90 = some (.iload_n 2) := by decide +kernel
theorem aX3_canBeMade_91 : mm_at mX3_canBeMade 91 = some (.invokevirtual 64) := by decide +kernel
theorem aX3_canBeMade_94 : mm_at mX3_canBeMade 94 = some (.ireturn) := by decide +kernel
theorem aX3_canBeMade_95 : mm_at mX3_canBeMade 95 = some (.aload_n 0) := by decide +kernel
theorem aX3_canBeMade_96 : mm_at mX3_canBeMade 96 = some (.iload_n 2) := by decide +kernel
theorem aX3_canBeMade_97 : mm_at mX3_canBeMade 97 = some (.invokevirtual 64) := by decide +kernel
theorem aX3_canBeMade_100 : mm_at mX3_canBeMade 100 = some (.ifCond .eq 15) := by decide +kernel
theorem aX3_canBeMade_103 : mm_at mX3_canBeMade 103 = some (.iload_n 3) := by decide +kernel
theorem aX3_canBeMade_104 : mm_at mX3_canBeMade 104 = some (.i2l) := by decide +kernel
theorem aX3_canBeMade_105 : mm_at mX3_canBeMade 105 = some (.invokestatic 45) := by decide +kernel
theorem aX3_canBeMade_108 : mm_at mX3_canBeMade 108 = some (.ifCond .eq 7) := by decide +kernel
theorem aX3_canBeMade_111 : mm_at mX3_canBeMade 111 = some (.iconst 1) := by decide +kernel
theorem aX3_canBeMade_112 : mm_at mX3_canBeMade 112 = some (.goto 4) := by decide +kernel
theorem aX3_canBeMade_115 : mm_at mX3_canBeMade 115 = some (.iconst 0) := by decide +kernel
theorem aX3_canBeMade_116 : mm_at mX3_canBeMade 116 = some (.ireturn) := by decide +kernel
theorem aX3_canBeMade_117 : mm_at mX3_canBeMade 117 = some (.aload_n 0) := by decide +kernel
theorem aX3_canBeMade_118 : mm_at mX3_canBeMade 118 = some (.iload_n 2) := by decide +kernel
theorem aX3_canBeMade_119 : mm_at mX3_canBeMade 119 = some (.invokevirtual 64) := by decide +kernel
theorem aX3_canBeMade_122 : mm_at mX3_canBeMade 122 = some (.ifCond .eq 15) := by decide +kernel
theorem aX3_canBeMade_125 : mm_at mX3_canBeMade 125 = some (.aload_n 0) := by decide +kernel
theorem aX3_canBeMade_126 : mm_at mX3_canBeMade 126 = some (.iload_n 3) := by decide +kernel
theorem aX3_canBeMade_127 : mm_at mX3_canBeMade 127 = some (.invokevirtual 64) := by decide +kernel
theorem aX3_canBeMade_130 : mm_at mX3_canBeMade 130 = some (.ifCond .eq 7) := by decide +kernel
theorem aX3_canBeMade_133 : mm_at mX3_canBeMade 133 = some (.iconst 1) := by decide +kernel
theorem aX3_canBeMade_134 : mm_at mX3_canBeMade 134 = some (.goto 4) := by decide +kernel
theorem aX3_canBeMade_137 : mm_at mX3_canBeMade 137 = some (.iconst 0) := by decide +kernel
theorem aX3_canBeMade_138 : mm_at mX3_canBeMade 138 = some (.ireturn) := by decide +kernel
theorem aX3_canBeMade_139 : mm_at mX3_canBeMade 139 = some (.aload_n 0) := by decide +kernel
theorem aX3_canBeMade_140 : mm_at mX3_canBeMade 140 = some (.iload_n 2) := by decide +kernel
theorem aX3_canBeMade_141 : mm_at mX3_canBeMade 141 = some (.invokevirtual 64) := by decide +kernel
theorem aX3_canBeMade_144 : mm_at mX3_canBeMade 144 = some (.ifCond .eq 14) := by decide +kernel
theorem aX3_canBeMade_147 : mm_at mX3_canBeMade 147 = some (.iload_n 3) := by decide +kernel
theorem aX3_canBeMade_148 : mm_at mX3_canBeMade 148 = some (.invokestatic 49) := by decide +kernel
theorem aX3_canBeMade_151 : mm_at mX3_canBeMade 151 = some (.ifCond .eq 7) := by decide +kernel
theorem aX3_canBeMade_154 : mm_at mX3_canBeMade 154 = some (.iconst 1) := by decide +kernel
theorem aX3_canBeMade_155 : mm_at mX3_canBeMade 155 = some (.goto 4) := by decide +kernel
theorem aX3_canBeMade_158 : mm_at mX3_canBeMade 158 = some (.iconst 0) := by decide +kernel
theorem aX3_canBeMade_159 : mm_at mX3_canBeMade 159 = some (.ireturn) := by decide +kernel
theorem aX3_canBeMade_160 : mm_at mX3_canBeMade 160 = some (.iconst 0) := by decide +kernel
theorem aX3_canBeMade_161 : mm_at mX3_canBeMade 161 = some (.ireturn) := by decide +kernel
theorem aX3_makeHearer_0 : mm_at mX3_makeHearer 0 = some (.iload_n 1) := by decide +kernel
theorem aX3_makeHearer_1 : mm_at mX3_makeHearer 1 = some (.iconst 2) := by decide +kernel
theorem aX3_makeHearer_2 : mm_at mX3_makeHearer 2 = some (.if_icmp .ne 12) := by decide +kernel
theorem aX3_makeHearer_5 : mm_at mX3_makeHearer 5 = some (.aload_n 0) := by decide +kernel
theorem aX3_makeHearer_6 : mm_at mX3_makeHearer 6 = some (.getfield 9) := by decide +kernel
theorem aX3_makeHearer_9 : mm_at mX3_makeHearer 9 = some (.iload_n 2) := by decide +kernel
theorem aX3_makeHearer_10 : mm_at mX3_makeHearer 10 = some (.laload) := by decide +kernel
theorem aX3_makeHearer_11 : mm_at mX3_makeHearer 11 = some (.goto 4) := by decide +kernel
theorem aX3_makeHearer_14 : mm_at mX3_makeHearer 14 = some (.lconst 0) := by decide +kernel
theorem aX3_makeHearer_15 : mm_at mX3_makeHearer 15 = some (.lstore 4) := by decide +kernel
theorem aX3_makeHearer_17 : mm_at mX3_makeHearer 17 = some (.iload_n 1) := by decide +kernel
theorem aX3_makeHearer_18 : mm_at mX3_makeHearer 18 = some (.bipush 8) := by decide +kernel
theorem aX3_makeHearer_20 : mm_at mX3_makeHearer 20 = some (.if_icmp .lt 18) := by decide +kernel
theorem aX3_makeHearer_23 : mm_at mX3_makeHearer 23 = some (.iload_n 1) := by decide +kernel
theorem aX3_makeHearer_24 : mm_at mX3_makeHearer 24 = some (.bipush 12) := by decide +kernel
theorem aX3_makeHearer_26 : mm_at mX3_makeHearer 26 = some (.if_icmp .gt 12) := by decide +kernel
theorem aX3_makeHearer_29 : mm_at mX3_makeHearer 29 = some (.aload_n 0) := by decide +kernel
theorem aX3_makeHearer_30 : mm_at mX3_makeHearer 30 = some (.getfield 32) := by decide +kernel
theorem aX3_makeHearer_33 : mm_at mX3_makeHearer 33 = some (.iload_n 2) := by decide +kernel
theorem aX3_makeHearer_34 : mm_at mX3_makeHearer 34 = some (.aaload) := by decide +kernel
theorem aX3_makeHearer_35 : mm_at mX3_makeHearer 35 = some (.goto 4) := by decide +kernel
theorem aX3_makeHearer_38 : mm_at mX3_makeHearer 38 = some (.aconst_null) := by decide +kernel
theorem aX3_makeHearer_39 : mm_at mX3_makeHearer 39 = some (.astore 6) := by decide +kernel
theorem aX3_makeHearer_41 : mm_at mX3_makeHearer 41 = some (.iload_n 1) := by decide +kernel
theorem aX3_makeHearer_42 : mm_at mX3_makeHearer 42 = some (.bipush 11) := by decide +kernel
theorem aX3_makeHearer_44 : mm_at mX3_makeHearer 44 = some (.if_icmp .ne 12) := by decide +kernel
theorem aX3_makeHearer_47 : mm_at mX3_makeHearer 47 = some (.aload_n 0) := by decide +kernel
theorem aX3_makeHearer_48 : mm_at mX3_makeHearer 48 = some (.getfield 32) := by decide +kernel
theorem aX3_makeHearer_51 : mm_at mX3_makeHearer 51 = some (.iload_n 3) := by decide +kernel
theorem aX3_makeHearer_52 : mm_at mX3_makeHearer 52 = some (.aaload) := by decide +kernel
theorem aX3_makeHearer_53 : mm_at mX3_makeHearer 53 = some (.goto 4) := by decide +kernel
theorem aX3_makeHearer_56 : mm_at mX3_makeHearer 56 = some (.aconst_null) := by decide +kernel
theorem aX3_makeHearer_57 : mm_at mX3_makeHearer 57 = some (.astore 7) := by decide +kernel
theorem aX3_makeHearer_59 : mm_at mX3_makeHearer 59 = some (.new 26) := by decide +kernel
theorem aX3_makeHearer_62 : mm_at mX3_makeHearer 62 = some (.dup) := by decide +kernel
theorem aX3_makeHearer_63 : mm_at mX3_makeHearer 63 = some (.iload_n 1) := by decide +kernel
theorem aX3_makeHearer_64 : mm_at mX3_makeHearer 64 = some (.iload_n 2) := by decide +kernel
theorem aX3_makeHearer_65 : mm_at mX3_makeHearer 65 = some (.iload_n 3) := by decide +kernel
theorem aX3_makeHearer_66 : mm_at mX3_makeHearer 66 = some (.lload 4) := by decide +kernel
theorem aX3_makeHearer_68 : mm_at mX3_makeHearer 68 = some (.aload 6) := by decide +kernel
theorem aX3_makeHearer_70 : mm_at mX3_makeHearer 70 = some (.aload 7) := by decide +kernel
theorem aX3_makeHearer_72 : mm_at mX3_makeHearer 72 = some (.invokespecial 132) := by decide +kernel
theorem aX3_makeHearer_75 : mm_at mX3_makeHearer 75 = some (.astore 8) := by decide +kernel
theorem aX3_makeHearer_77 : mm_at mX3_makeHearer 77 = some (.aload_n 0) := by decide +kernel
theorem aX3_makeHearer_78 : mm_at mX3_makeHearer 78 = some (.getfield 28) := by decide +kernel
theorem aX3_makeHearer_81 : mm_at mX3_makeHearer 81 = some (.aload_n 0) := by decide +kernel
theorem aX3_makeHearer_82 : mm_at mX3_makeHearer 82 = some (.getfield 61) := by decide +kernel
theorem aX3_makeHearer_85 : mm_at mX3_makeHearer 85 = some (.aload 8) := by decide +kernel
theorem aX3_makeHearer_87 : mm_at mX3_makeHearer 87 = some (.aastore) := by decide +kernel
theorem aX3_makeHearer_88 : mm_at mX3_makeHearer 88 = some (.aload_n 0) := by decide +kernel
theorem aX3_makeHearer_89 : mm_at mX3_makeHearer 89 = some (.getfield 32) := by decide +kernel
theorem aX3_makeHearer_92 : mm_at mX3_makeHearer 92 = some (.aload_n 0) := by decide +kernel
theorem aX3_makeHearer_93 : mm_at mX3_makeHearer 93 = some (.getfield 61) := by decide +kernel
theorem aX3_makeHearer_96 : mm_at mX3_makeHearer 96 = some (.aload 8) := by decide +kernel
theorem aX3_makeHearer_98 : mm_at mX3_makeHearer 98 = some (.aastore) := by decide +kernel
theorem aX3_makeHearer_99 : mm_at mX3_makeHearer 99 = some (.aload_n 0) := by decide +kernel
theorem aX3_makeHearer_100 : mm_at mX3_makeHearer 100 = some (.dup) := by decide +kernel
theorem aX3_makeHearer_101 : mm_at mX3_makeHearer 101 = some (.getfield 61) := by decide +kernel
theorem aX3_makeHearer_104 : mm_at mX3_makeHearer 104 = some (.dup_x1) := by decide +kernel
theorem aX3_makeHearer_105 : mm_at mX3_makeHearer 105 = some (.iconst 1) := by decide +kernel
theorem aX3_makeHearer_106 : mm_at mX3_makeHearer 106 = some (.iadd) := by decide +kernel
theorem aX3_makeHearer_107 : mm_at mX3_makeHearer 107 = some (.putfield 61) := by decide +kernel
theorem aX3_makeHearer_110 : mm_at mX3_makeHearer 110 = some (.ireturn) := by decide +kernel
theorem aX3_answerOfCall_0 : mm_at mX3_answerOfCall 0 = some (.iload_n 1) := by decide +kernel
theorem aX3_answerOfCall_1 : mm_at mX3_answerOfCall 1 = some (.ifCond .ne 8) := by decide +kernel
theorem aX3_answerOfCall_4 : mm_at mX3_answerOfCall 4 = some (.aload_n 0) := by decide +kernel
theorem aX3_answerOfCall_5 : mm_at mX3_answerOfCall 5 = some (.getfield 77) := by decide +kernel
theorem aX3_answerOfCall_8 : mm_at mX3_answerOfCall 8 = some (.ireturn) := by decide +kernel
theorem aX3_answerOfCall_9 : mm_at mX3_answerOfCall 9 = some (.aload_n 0) := by decide +kernel
theorem aX3_answerOfCall_10 : mm_at mX3_answerOfCall 10 = some (.dup) := by decide +kernel
theorem aX3_answerOfCall_11 : mm_at mX3_answerOfCall 11 = some (.getfield 112) := by decide +kernel
theorem aX3_answerOfCall_14 : mm_at mX3_answerOfCall 14 = some (.iconst 1) := by decide +kernel
theorem aX3_answerOfCall_15 : mm_at mX3_answerOfCall 15 = some (.iadd) := by decide +kernel
theorem aX3_answerOfCall_16 : mm_at mX3_answerOfCall 16 = some (.putfield 112) := by decide +kernel
theorem aX3_answerOfCall_19 : mm_at mX3_answerOfCall 19 = some (.aload_n 0) := by decide +kernel
theorem aX3_answerOfCall_20 : mm_at mX3_answerOfCall 20 = some (.dup) := by decide +kernel
theorem aX3_answerOfCall_21 : mm_at mX3_answerOfCall 21 = some (.getfield 74) := by decide +kernel
theorem aX3_answerOfCall_24 : mm_at mX3_answerOfCall 24 = some (.iconst 1) := by decide +kernel
theorem aX3_answerOfCall_25 : mm_at mX3_answerOfCall 25 = some (.iadd) := by decide +kernel
theorem aX3_answerOfCall_26 : mm_at mX3_answerOfCall 26 = some (.putfield 74) := by decide +kernel
theorem aX3_answerOfCall_29 : mm_at mX3_answerOfCall 29 = some (.aload_n 0) := by decide +kernel
theorem aX3_answerOfCall_30 : mm_at mX3_answerOfCall 30 = some (.iload_n 1) := by decide +kernel
theorem aX3_answerOfCall_31 : mm_at mX3_answerOfCall 31 = some (.putfield 124) := by decide +kernel
theorem aX3_answerOfCall_34 : mm_at mX3_answerOfCall 34 = some (.bipush (-10)) := by decide +kernel
theorem aX3_answerOfCall_36 : mm_at mX3_answerOfCall 36 = some (.iload_n 1) := by decide +kernel
theorem aX3_answerOfCall_37 : mm_at mX3_answerOfCall 37 = some (.isub) := by decide +kernel
theorem aX3_answerOfCall_38 : mm_at mX3_answerOfCall 38 = some (.ireturn) := by decide +kernel
theorem aX3_ringQueueAfter_0 : mm_at mX3_ringQueueAfter 0 = some (.iload_n 1) := by decide +kernel
theorem aX3_ringQueueAfter_1 : mm_at mX3_ringQueueAfter 1 = some (.istore_n 2) := by decide +kernel
theorem aX3_ringQueueAfter_2 : mm_at mX3_ringQueueAfter 2 = some (.sipush 220) := by decide +kernel
theorem aX3_ringQueueAfter_5 : mm_at mX3_ringQueueAfter 5 = some (.istore_n 3) := by decide +kernel
theorem aX3_ringQueueAfter_6 : mm_at mX3_ringQueueAfter 6 = some (.iconst 0) := by decide +kernel
theorem aX3_ringQueueAfter_7 : mm_at mX3_ringQueueAfter 7 = some (.istore 4) := by decide +kernel
theorem aX3_ringQueueAfter_9 : mm_at mX3_ringQueueAfter 9 = some (.iload 4) := by decide +kernel
theorem aX3_ringQueueAfter_11 : mm_at mX3_ringQueueAfter 11 = some (.iload_n 3) := by decide +kernel
theorem aX3_ringQueueAfter_12 : mm_at mX3_ringQueueAfter 12 = some (.if_icmp .ge 57) := by decide +kernel
theorem aX3_ringQueueAfter_15 : mm_at mX3_ringQueueAfter 15 = some (.iload_n 2) := by decide +kernel
theorem aX3_ringQueueAfter_16 : mm_at mX3_ringQueueAfter 16 = some (.ifCond .ne 53) := by decide +kernel
theorem aX3_ringQueueAfter_19 : mm_at mX3_ringQueueAfter 19 = some (.aload_n 0) := by decide +kernel
theorem aX3_ringQueueAfter_20 : mm_at mX3_ringQueueAfter 20 = some (.getfield 22) := by decide +kernel
theorem aX3_ringQueueAfter_23 : mm_at mX3_ringQueueAfter 23 = some (.getfield 121) := by decide +kernel
theorem aX3_ringQueueAfter_26 : mm_at mX3_ringQueueAfter 26 = some (.ifCond .le 43) := by decide +kernel
theorem aX3_ringQueueAfter_29 : mm_at mX3_ringQueueAfter 29 = some (.aload_n 0) := by decide +kernel
theorem aX3_ringQueueAfter_30 : mm_at mX3_ringQueueAfter 30 = some (.getfield 22) := by decide +kernel
theorem aX3_ringQueueAfter_33 : mm_at mX3_ringQueueAfter 33 = some (.invokevirtual 135) := by decide +kernel
theorem aX3_ringQueueAfter_36 : mm_at mX3_ringQueueAfter 36 = some (.istore 5) := by decide +kernel
theorem aX3_ringQueueAfter_38 : mm_at mX3_ringQueueAfter 38 = some (.aload_n 0) := by decide +kernel
theorem aX3_ringQueueAfter_39 : mm_at mX3_ringQueueAfter 39 = some (.getfield 22) := by decide +kernel
theorem aX3_ringQueueAfter_42 : mm_at mX3_ringQueueAfter 42 = some (.invokevirtual 139) := by decide +kernel
theorem aX3_ringQueueAfter_45 : mm_at mX3_ringQueueAfter 45 = some (.lstore 6) := by decide +kernel
theorem aX3_ringQueueAfter_47 : mm_at mX3_ringQueueAfter 47 = some (.aload_n 0) := by decide +kernel
theorem aX3_ringQueueAfter_48 : mm_at mX3_ringQueueAfter 48 = some (.getfield 22) := by decide +kernel
theorem aX3_ringQueueAfter_51 : mm_at mX3_ringQueueAfter 51 = some (.invokevirtual 143) := by decide +kernel
theorem aX3_ringQueueAfter_54 : mm_at mX3_ringQueueAfter 54 = some (.aload_n 0) := by decide +kernel
theorem aX3_ringQueueAfter_55 : mm_at mX3_ringQueueAfter 55 = some (.iload 5) := by decide +kernel
theorem aX3_ringQueueAfter_57 : mm_at mX3_ringQueueAfter 57 = some (.lload 6) := by decide +kernel
theorem aX3_ringQueueAfter_59 : mm_at mX3_ringQueueAfter 59 = some (.invokevirtual 80) := by decide +kernel
theorem aX3_ringQueueAfter_62 : mm_at mX3_ringQueueAfter 62 = some (.istore_n 2) := by decide +kernel
theorem aX3_ringQueueAfter_63 : mm_at mX3_ringQueueAfter 63 = some (.iinc 4 1) := by decide +kernel
theorem aX3_ringQueueAfter_66 : mm_at mX3_ringQueueAfter 66 = some (.goto (-57)) := by decide +kernel
theorem aX3_ringQueueAfter_69 : mm_at mX3_ringQueueAfter 69 = some (.iload_n 2) := by decide +kernel
theorem aX3_ringQueueAfter_70 : mm_at mX3_ringQueueAfter 70 = some (.ireturn) := by decide +kernel
theorem aX3_ringBell_0 : mm_at mX3_ringBell 0 = some (.aload_n 0) := by decide +kernel
theorem aX3_ringBell_1 : mm_at mX3_ringBell 1 = some (.getfield 146) := by decide +kernel
theorem aX3_ringBell_4 : mm_at mX3_ringBell 4 = some (.bipush 8) := by decide +kernel
theorem aX3_ringBell_6 : mm_at mX3_ringBell 6 = some (.if_icmp .lt 5) := by decide +kernel
theorem aX3_ringBell_9 : mm_at mX3_ringBell 9 = some (.iconst 5) := by decide +kernel
theorem aX3_ringBell_10 : mm_at mX3_ringBell 10 = some (.ireturn) := by decide +kernel
theorem aX3_ringBell_11 : mm_at mX3_ringBell 11 = some (.aload_n 0) := by decide +kernel
theorem aX3_ringBell_12 : mm_at mX3_ringBell 12 = some (.getfield 15) := by decide +kernel
theorem aX3_ringBell_15 : mm_at mX3_ringBell 15 = some (.iload_n 1) := by decide +kernel
theorem aX3_ringBell_16 : mm_at mX3_ringBell 16 = some (.aaload) := by decide +kernel
theorem aX3_ringBell_17 : mm_at mX3_ringBell 17 = some (.astore 4) := by decide +kernel
theorem aX3_ringBell_19 : mm_at mX3_ringBell 19 = some (.aload_n 0) := by decide +kernel
theorem aX3_ringBell_20 : mm_at mX3_ringBell 20 = some (.getfield 37) := by decide +kernel
theorem aX3_ringBell_23 : mm_at mX3_ringBell 23 = some (.aload_n 0) := by decide +kernel
theorem aX3_ringBell_24 : mm_at mX3_ringBell 24 = some (.getfield 146) := by decide +kernel
theorem aX3_ringBell_27 : mm_at mX3_ringBell 27 = some (.aaload) := by decide +kernel
theorem aX3_ringBell_28 : mm_at mX3_ringBell 28 = some (.astore 5) := by decide +kernel
theorem aX3_ringBell_30 : mm_at mX3_ringBell 30 = some (.aload 4) := by decide +kernel
theorem aX3_ringBell_32 : mm_at mX3_ringBell 32 = some (.aload 5) := by decide +kernel
theorem aX3_ringBell_34 : mm_at mX3_ringBell 34 = some (.invokevirtual 149) := by decide +kernel
theorem aX3_ringBell_37 : mm_at mX3_ringBell 37 = some (.istore 6) := by decide +kernel
theorem aX3_ringBell_39 : mm_at mX3_ringBell 39 = some (.aload_n 0) := by decide +kernel
theorem aX3_ringBell_40 : mm_at mX3_ringBell 40 = some (.dup) := by decide +kernel
theorem aX3_ringBell_41 : mm_at mX3_ringBell 41 = some (.getfield 146) := by decide +kernel
theorem aX3_ringBell_44 : mm_at mX3_ringBell 44 = some (.iconst 1) := by decide +kernel
theorem aX3_ringBell_45 : mm_at mX3_ringBell 45 = some (.iadd) := by decide +kernel
theorem aX3_ringBell_46 : mm_at mX3_ringBell 46 = some (.putfield 146) := by decide +kernel
theorem aX3_ringBell_49 : mm_at mX3_ringBell 49 = some (.aload_n 0) := by decide +kernel
theorem aX3_ringBell_50 : mm_at mX3_ringBell 50 = some (.dup) := by decide +kernel
theorem aX3_ringBell_51 : mm_at mX3_ringBell 51 = some (.getfield 106) := by decide +kernel
theorem aX3_ringBell_54 : mm_at mX3_ringBell 54 = some (.iconst 1) := by decide +kernel
theorem aX3_ringBell_55 : mm_at mX3_ringBell 55 = some (.iadd) := by decide +kernel
theorem aX3_ringBell_56 : mm_at mX3_ringBell 56 = some (.putfield 106) := by decide +kernel
theorem aX3_ringBell_59 : mm_at mX3_ringBell 59 = some (.iconst 0) := by decide +kernel
theorem aX3_ringBell_60 : mm_at mX3_ringBell 60 = some (.istore 7) := by decide +kernel
end
section
theorem aX3_ringBell_62 : mm_at mX3_ringBell 62 = some (.iconst 0) := by decide +kernel
theorem aX3_ringBell_63 : mm_at mX3_ringBell 63 = some (.istore 8) := by decide +kernel
theorem aX3_ringBell_65 : mm_at mX3_ringBell 65 = some (.iload 8) := by decide +kernel
theorem aX3_ringBell_67 : mm_at mX3_ringBell 67 = some (.iload 6) := by decide +kernel
theorem aX3_ringBell_69 : mm_at mX3_ringBell 69 = some (.if_icmp .ge 52) := by decide +kernel
theorem aX3_ringBell_72 : mm_at mX3_ringBell 72 = some (.iload 7) := by decide +kernel
theorem aX3_ringBell_74 : mm_at mX3_ringBell 74 = some (.ifCond .ne 47) := by decide +kernel
theorem aX3_ringBell_77 : mm_at mX3_ringBell 77 = some (.aload 5) := by decide +kernel
theorem aX3_ringBell_79 : mm_at mX3_ringBell 79 = some (.iload 8) := by decide +kernel
theorem aX3_ringBell_81 : mm_at mX3_ringBell 81 = some (.iaload) := by decide +kernel
theorem aX3_ringBell_82 : mm_at mX3_ringBell 82 = some (.istore 9) := by decide +kernel
theorem aX3_ringBell_84 : mm_at mX3_ringBell 84 = some (.aload 4) := by decide +kernel
theorem aX3_ringBell_86 : mm_at mX3_ringBell 86 = some (.iload 9) := by decide +kernel
theorem aX3_ringBell_88 : mm_at mX3_ringBell 88 = some (.invokevirtual 153) := by decide +kernel
theorem aX3_ringBell_91 : mm_at mX3_ringBell 91 = some (.iconst (-1)) := by decide +kernel
theorem aX3_ringBell_92 : mm_at mX3_ringBell 92 = some (.if_icmp .eq 23) := by decide +kernel
theorem aX3_ringBell_95 : mm_at mX3_ringBell 95 = some (.aload_n 0) := by decide +kernel
theorem aX3_ringBell_96 : mm_at mX3_ringBell 96 = some (.aload 4) := by decide +kernel
theorem aX3_ringBell_98 : mm_at mX3_ringBell 98 = some (.aload_n 0) := by decide +kernel
theorem aX3_ringBell_99 : mm_at mX3_ringBell 99 = some (.aload_n 0) := by decide +kernel
theorem aX3_ringBell_100 : mm_at mX3_ringBell 100 = some (.getfield 32) := by decide +kernel
theorem aX3_ringBell_103 : mm_at mX3_ringBell 103 = some (.iload 9) := by decide +kernel
theorem aX3_ringBell_105 : mm_at mX3_ringBell 105 = some (.aaload) := by decide +kernel
theorem aX3_ringBell_106 : mm_at mX3_ringBell 106 = some (.lload_n 2) := by decide +kernel
theorem aX3_ringBell_107 : mm_at mX3_ringBell 107 = some (.invokevirtual 90) := by decide +kernel
theorem aX3_ringBell_110 : mm_at mX3_ringBell 110 = some (.invokevirtual 156) := by decide +kernel
theorem aX3_ringBell_113 : mm_at mX3_ringBell 113 = some (.istore 7) := by decide +kernel
theorem aX3_ringBell_115 : mm_at mX3_ringBell 115 = some (.iinc 8 1) := by decide +kernel
theorem aX3_ringBell_118 : mm_at mX3_ringBell 118 = some (.goto (-53)) := by decide +kernel
theorem aX3_ringBell_121 : mm_at mX3_ringBell 121 = some (.aload_n 0) := by decide +kernel
theorem aX3_ringBell_122 : mm_at mX3_ringBell 122 = some (.dup) := by decide +kernel
theorem aX3_ringBell_123 : mm_at mX3_ringBell 123 = some (.getfield 146) := by decide +kernel
theorem aX3_ringBell_126 : mm_at mX3_ringBell 126 = some (.iconst 1) := by decide +kernel
theorem aX3_ringBell_127 : mm_at mX3_ringBell 127 = some (.isub) := by decide +kernel
theorem aX3_ringBell_128 : mm_at mX3_ringBell 128 = some (.putfield 146) := by decide +kernel
theorem aX3_ringBell_131 : mm_at mX3_ringBell 131 = some (.iload 7) := by decide +kernel
theorem aX3_ringBell_133 : mm_at mX3_ringBell 133 = some (.invokestatic 94) := by decide +kernel
theorem aX3_ringBell_136 : mm_at mX3_ringBell 136 = some (.ireturn) := by decide +kernel
theorem aX3_perform_0 : mm_at mX3_perform 0 = some (.aload_n 1) := by decide +kernel
theorem aX3_perform_1 : mm_at mX3_perform 1 = some (.ifnonnull 5) := by decide +kernel
theorem aX3_perform_4 : mm_at mX3_perform 4 = some (.iconst 3) := by decide +kernel
theorem aX3_perform_5 : mm_at mX3_perform 5 = some (.ireturn) := by decide +kernel
theorem aX3_perform_6 : mm_at mX3_perform 6 = some (.aload_n 0) := by decide +kernel
theorem aX3_perform_7 : mm_at mX3_perform 7 = some (.getfield 77) := by decide +kernel
theorem aX3_perform_10 : mm_at mX3_perform 10 = some (.sipush 200) := by decide +kernel
theorem aX3_perform_13 : mm_at mX3_perform 13 = some (.if_icmp .lt 6) := by decide +kernel
theorem aX3_perform_16 : mm_at mX3_perform 16 = some (.bipush 6) := by decide +kernel
theorem aX3_perform_18 : mm_at mX3_perform 18 = some (.ireturn) := by decide +kernel
theorem aX3_perform_19 : mm_at mX3_perform 19 = some (.aload_n 0) := by decide +kernel
theorem aX3_perform_20 : mm_at mX3_perform 20 = some (.dup) := by decide +kernel
theorem aX3_perform_21 : mm_at mX3_perform 21 = some (.getfield 77) := by decide +kernel
theorem aX3_perform_24 : mm_at mX3_perform 24 = some (.iconst 1) := by decide +kernel
theorem aX3_perform_25 : mm_at mX3_perform 25 = some (.iadd) := by decide +kernel
theorem aX3_perform_26 : mm_at mX3_perform 26 = some (.putfield 77) := by decide +kernel
theorem aX3_perform_29 : mm_at mX3_perform 29 = some (.aload_n 0) := by decide +kernel
theorem aX3_perform_30 : mm_at mX3_perform 30 = some (.dup) := by decide +kernel
theorem aX3_perform_31 : mm_at mX3_perform 31 = some (.getfield 103) := by decide +kernel
theorem aX3_perform_34 : mm_at mX3_perform 34 = some (.iconst 1) := by decide +kernel
theorem aX3_perform_35 : mm_at mX3_perform 35 = some (.iadd) := by decide +kernel
theorem aX3_perform_36 : mm_at mX3_perform 36 = some (.putfield 103) := by decide +kernel
theorem aX3_perform_39 : mm_at mX3_perform 39 = some (.aload_n 1) := by decide +kernel
theorem aX3_perform_40 : mm_at mX3_perform 40 = some (.dup) := by decide +kernel
theorem aX3_perform_41 : mm_at mX3_perform 41 = some (.getfield 127) := by decide +kernel
theorem aX3_perform_44 : mm_at mX3_perform 44 = some (.iconst 1) := by decide +kernel
theorem aX3_perform_45 : mm_at mX3_perform 45 = some (.iadd) := by decide +kernel
theorem aX3_perform_46 : mm_at mX3_perform 46 = some (.putfield 127) := by decide +kernel
theorem aX3_perform_49 : mm_at mX3_perform 49 = some (.aload_n 1) := by decide +kernel
theorem aX3_perform_50 : mm_at mX3_perform 50 = some (.getfield 160) := by decide +kernel
theorem aX3_perform_53 : mm_at mX3_perform 53 = some (.tableswitch 192 5 12 #[47, 192, 192, 63, 88, 118, 146, 177]) := by decide +kernel
theorem aX3_perform_100 : mm_at mX3_perform 100 = some (.aload_n 0) := by decide +kernel
theorem aX3_perform_101 : mm_at mX3_perform 101 = some (.aload_n 1) := by decide +kernel
theorem aX3_perform_102 : mm_at mX3_perform 102 = some (.getfield 163) := by decide +kernel
theorem aX3_perform_105 : mm_at mX3_perform 105 = some (.lload_n 2) := by decide +kernel
theorem aX3_perform_106 : mm_at mX3_perform 106 = some (.aload_n 1) := by decide +kernel
theorem aX3_perform_107 : mm_at mX3_perform 107 = some (.getfield 166) := by decide +kernel
theorem aX3_perform_110 : mm_at mX3_perform 110 = some (.i2l) := by decide +kernel
theorem aX3_perform_111 : mm_at mX3_perform 111 = some (.ladd) := by decide +kernel
theorem aX3_perform_112 : mm_at mX3_perform 112 = some (.invokevirtual 80) := by decide +kernel
theorem aX3_perform_115 : mm_at mX3_perform 115 = some (.ireturn) := by decide +kernel
theorem aX3_perform_116 : mm_at mX3_perform 116 = some (.aload_n 1) := by decide +kernel
theorem aX3_perform_117 : mm_at mX3_perform 117 = some (.getfield 127) := by decide +kernel
theorem aX3_perform_120 : mm_at mX3_perform 120 = some (.aload_n 1) := by decide +kernel
theorem aX3_perform_121 : mm_at mX3_perform 121 = some (.getfield 166) := by decide +kernel
theorem aX3_perform_124 : mm_at mX3_perform 124 = some (.if_icmp .gt 15) := by decide +kernel
theorem aX3_perform_127 : mm_at mX3_perform 127 = some (.aload_n 0) := by decide +kernel
theorem aX3_perform_128 : mm_at mX3_perform 128 = some (.aload_n 1) := by decide +kernel
theorem aX3_perform_129 : mm_at mX3_perform 129 = some (.getfield 169) := by decide +kernel
theorem aX3_perform_132 : mm_at mX3_perform 132 = some (.lload_n 2) := by decide +kernel
theorem aX3_perform_133 : mm_at mX3_perform 133 = some (.invokevirtual 90) := by decide +kernel
theorem aX3_perform_136 : mm_at mX3_perform 136 = some (.goto 4) := by decide +kernel
theorem aX3_perform_139 : mm_at mX3_perform 139 = some (.iconst 0) := by decide +kernel
theorem aX3_perform_140 : mm_at mX3_perform 140 = some (.ireturn) := by decide +kernel
theorem aX3_perform_141 : mm_at mX3_perform 141 = some (.aload_n 1) := by decide +kernel
theorem aX3_perform_142 : mm_at mX3_perform 142 = some (.getfield 127) := by decide +kernel
theorem aX3_perform_145 : mm_at mX3_perform 145 = some (.aload_n 1) := by decide +kernel
theorem aX3_perform_146 : mm_at mX3_perform 146 = some (.getfield 166) := by decide +kernel
theorem aX3_perform_149 : mm_at mX3_perform 149 = some (.iconst 1) := by decide +kernel
theorem aX3_perform_150 : mm_at mX3_perform 150 = some (.invokestatic 173) := by decide +kernel
theorem aX3_perform_153 : mm_at mX3_perform 153 = some (.irem) := by decide +kernel
theorem aX3_perform_154 : mm_at mX3_perform 154 = some (.ifCond .ne 15) := by decide +kernel
theorem aX3_perform_157 : mm_at mX3_perform 157 = some (.aload_n 0) := by decide +kernel
theorem aX3_perform_158 : mm_at mX3_perform 158 = some (.aload_n 1) := by decide +kernel
theorem aX3_perform_159 : mm_at mX3_perform 159 = some (.getfield 169) := by decide +kernel
theorem aX3_perform_162 : mm_at mX3_perform 162 = some (.lload_n 2) := by decide +kernel
theorem aX3_perform_163 : mm_at mX3_perform 163 = some (.invokevirtual 90) := by decide +kernel
theorem aX3_perform_166 : mm_at mX3_perform 166 = some (.goto 4) := by decide +kernel
theorem aX3_perform_169 : mm_at mX3_perform 169 = some (.iconst 0) := by decide +kernel
theorem aX3_perform_170 : mm_at mX3_perform 170 = some (.ireturn) := by decide +kernel
theorem aX3_perform_171 : mm_at mX3_perform 171 = some (.aload_n 0) := by decide +kernel
theorem aX3_perform_172 : mm_at mX3_perform 172 = some (.getfield 9) := by decide +kernel
theorem aX3_perform_175 : mm_at mX3_perform 175 = some (.aload_n 1) := by decide +kernel
theorem aX3_perform_176 : mm_at mX3_perform 176 = some (.getfield 166) := by decide +kernel
theorem aX3_perform_179 : mm_at mX3_perform 179 = some (.laload) := by decide +kernel
theorem aX3_perform_180 : mm_at mX3_perform 180 = some (.lconst 0) := by decide +kernel
theorem aX3_perform_181 : mm_at mX3_perform 181 = some (.lcmp) := by decide +kernel
theorem aX3_perform_182 : mm_at mX3_perform 182 = some (.ifCond .le 15) := by decide +kernel
theorem aX3_perform_185 : mm_at mX3_perform 185 = some (.aload_n 0) := by decide +kernel
theorem aX3_perform_186 : mm_at mX3_perform 186 = some (.aload_n 1) := by decide +kernel
theorem aX3_perform_187 : mm_at mX3_perform 187 = some (.getfield 169) := by decide +kernel
theorem aX3_perform_190 : mm_at mX3_perform 190 = some (.lload_n 2) := by decide +kernel
theorem aX3_perform_191 : mm_at mX3_perform 191 = some (.invokevirtual 90) := by decide +kernel
theorem aX3_perform_194 : mm_at mX3_perform 194 = some (.goto 4) := by decide +kernel
theorem aX3_perform_197 : mm_at mX3_perform 197 = some (.iconst 0) := by decide +kernel
theorem aX3_perform_198 : mm_at mX3_perform 198 = some (.ireturn) := by decide +kernel
theorem aX3_perform_199 : mm_at mX3_perform 199 = some (.aload_n 0) := by decide +kernel
theorem aX3_perform_200 : mm_at mX3_perform 200 = some (.aload_n 1) := by decide +kernel
theorem aX3_perform_201 : mm_at mX3_perform 201 = some (.getfield 169) := by decide +kernel
theorem aX3_perform_204 : mm_at mX3_perform 204 = some (.lload_n 2) := by decide +kernel
theorem aX3_perform_205 : mm_at mX3_perform 205 = some (.invokevirtual 90) := by decide +kernel
theorem aX3_perform_208 : mm_at mX3_perform 208 = some (.istore 4) := by decide +kernel
theorem aX3_perform_210 : mm_at mX3_perform 210 = some (.iload 4) := by decide +kernel
theorem aX3_perform_212 : mm_at mX3_perform 212 = some (.ifCond .ne 15) := by decide +kernel
theorem aX3_perform_215 : mm_at mX3_perform 215 = some (.aload_n 0) := by decide +kernel
theorem aX3_perform_216 : mm_at mX3_perform 216 = some (.aload_n 1) := by decide +kernel
theorem aX3_perform_217 : mm_at mX3_perform 217 = some (.getfield 179) := by decide +kernel
theorem aX3_perform_220 : mm_at mX3_perform 220 = some (.lload_n 2) := by decide +kernel
theorem aX3_perform_221 : mm_at mX3_perform 221 = some (.invokevirtual 90) := by decide +kernel
theorem aX3_perform_224 : mm_at mX3_perform 224 = some (.goto 5) := by decide +kernel
theorem aX3_perform_227 : mm_at mX3_perform 227 = some (.iload 4) := by decide +kernel
theorem aX3_perform_229 : mm_at mX3_perform 229 = some (.ireturn) := by decide +kernel
theorem aX3_perform_230 : mm_at mX3_perform 230 = some (.aload_n 0) := by decide +kernel
theorem aX3_perform_231 : mm_at mX3_perform 231 = some (.aload_n 1) := by decide +kernel
theorem aX3_perform_232 : mm_at mX3_perform 232 = some (.aload_n 0) := by decide +kernel
theorem aX3_perform_233 : mm_at mX3_perform 233 = some (.aload_n 1) := by decide +kernel
theorem aX3_perform_234 : mm_at mX3_perform 234 = some (.getfield 169) := by decide +kernel
theorem aX3_perform_237 : mm_at mX3_perform 237 = some (.lload_n 2) := by decide +kernel
theorem aX3_perform_238 : mm_at mX3_perform 238 = some (.invokevirtual 90) := by decide +kernel
theorem aX3_perform_241 : mm_at mX3_perform 241 = some (.invokevirtual 182) := by decide +kernel
theorem aX3_perform_244 : mm_at mX3_perform 244 = some (.ireturn) := by decide +kernel
theorem aX3_perform_245 : mm_at mX3_perform 245 = some (.aload_n 0) := by decide +kernel
theorem aX3_perform_246 : mm_at mX3_perform 246 = some (.aload_n 1) := by decide +kernel
theorem aX3_perform_247 : mm_at mX3_perform 247 = some (.lload_n 2) := by decide +kernel
theorem aX3_perform_248 : mm_at mX3_perform 248 = some (.invokevirtual 186) := by decide +kernel
theorem aX3_perform_251 : mm_at mX3_perform 251 = some (.ireturn) := by decide +kernel
theorem aX3_performAlone_0 : mm_at mX3_performAlone 0 = some (.aload_n 1) := by decide +kernel
theorem aX3_performAlone_1 : mm_at mX3_performAlone 1 = some (.getfield 160) := by decide +kernel
theorem aX3_performAlone_4 : mm_at mX3_performAlone 4 = some (.tableswitch 239 0 14 #[76, 97, 121, 142, 152, 239, 162, 189, 239, 239, 239, 239, 239, 202, 212]) := by decide +kernel
theorem aX3_performAlone_80 : mm_at mX3_performAlone 80 = some (.aload_n 0) := by decide +kernel
theorem aX3_performAlone_81 : mm_at mX3_performAlone 81 = some (.getfield 9) := by decide +kernel
theorem aX3_performAlone_84 : mm_at mX3_performAlone 84 = some (.aload_n 1) := by decide +kernel
theorem aX3_performAlone_85 : mm_at mX3_performAlone 85 = some (.getfield 163) := by decide +kernel
theorem aX3_performAlone_88 : mm_at mX3_performAlone 88 = some (.dup2) := by decide +kernel
theorem aX3_performAlone_89 : mm_at mX3_performAlone 89 = some (.laload) := by decide +kernel
theorem aX3_performAlone_90 : mm_at mX3_performAlone 90 = some (.lload_n 2) := by decide +kernel
theorem aX3_performAlone_91 : mm_at mX3_performAlone 91 = some (.aload_n 1) := by decide +kernel
theorem aX3_performAlone_92 : mm_at mX3_performAlone 92 = some (.getfield 166) := by decide +kernel
theorem aX3_performAlone_95 : mm_at mX3_performAlone 95 = some (.i2l) := by decide +kernel
theorem aX3_performAlone_96 : mm_at mX3_performAlone 96 = some (.ladd) := by decide +kernel
theorem aX3_performAlone_97 : mm_at mX3_performAlone 97 = some (.ladd) := by decide +kernel
theorem aX3_performAlone_98 : mm_at mX3_performAlone 98 = some (.lastore) := by decide +kernel
theorem aX3_performAlone_99 : mm_at mX3_performAlone 99 = some (.iconst 0) := by decide +kernel
theorem aX3_performAlone_100 : mm_at mX3_performAlone 100 = some (.ireturn) := by decide +kernel
theorem aX3_performAlone_101 : mm_at mX3_performAlone 101 = some (.aload_n 0) := by decide +kernel
theorem aX3_performAlone_102 : mm_at mX3_performAlone 102 = some (.getfield 9) := by decide +kernel
theorem aX3_performAlone_105 : mm_at mX3_performAlone 105 = some (.aload_n 1) := by decide +kernel
theorem aX3_performAlone_106 : mm_at mX3_performAlone 106 = some (.getfield 163) := by decide +kernel
theorem aX3_performAlone_109 : mm_at mX3_performAlone 109 = some (.aload_n 0) := by decide +kernel
theorem aX3_performAlone_110 : mm_at mX3_performAlone 110 = some (.getfield 9) := by decide +kernel
theorem aX3_performAlone_113 : mm_at mX3_performAlone 113 = some (.aload_n 1) := by decide +kernel
theorem aX3_performAlone_114 : mm_at mX3_performAlone 114 = some (.getfield 163) := by decide +kernel
theorem aX3_performAlone_117 : mm_at mX3_performAlone 117 = some (.laload) := by decide +kernel
theorem aX3_performAlone_118 : mm_at mX3_performAlone 118 = some (.lload_n 2) := by decide +kernel
theorem aX3_performAlone_119 : mm_at mX3_performAlone 119 = some (.invokestatic 189) := by decide +kernel
theorem aX3_performAlone_122 : mm_at mX3_performAlone 122 = some (.lastore) := by decide +kernel
theorem aX3_performAlone_123 : mm_at mX3_performAlone 123 = some (.iconst 0) := by decide +kernel
theorem aX3_performAlone_124 : mm_at mX3_performAlone 124 = some (.ireturn) := by decide +kernel
theorem aX3_performAlone_125 : mm_at mX3_performAlone 125 = some (.aload_n 0) := by decide +kernel
theorem aX3_performAlone_126 : mm_at mX3_performAlone 126 = some (.getfield 9) := by decide +kernel
theorem aX3_performAlone_129 : mm_at mX3_performAlone 129 = some (.aload_n 1) := by decide +kernel
theorem aX3_performAlone_130 : mm_at mX3_performAlone 130 = some (.getfield 163) := by decide +kernel
theorem aX3_performAlone_133 : mm_at mX3_performAlone 133 = some (.aload_n 1) := by decide +kernel
theorem aX3_performAlone_134 : mm_at mX3_performAlone 134 = some (.getfield 192) := by decide +kernel
theorem aX3_performAlone_137 : mm_at mX3_performAlone 137 = some (.aload_n 1) := by decide +kernel
theorem aX3_performAlone_138 : mm_at mX3_performAlone 138 = some (.getfield 166) := by decide +kernel
theorem aX3_performAlone_141 : mm_at mX3_performAlone 141 = some (.i2l) := by decide +kernel
theorem aX3_performAlone_142 : mm_at mX3_performAlone 142 = some (.ladd) := by decide +kernel
theorem aX3_performAlone_143 : mm_at mX3_performAlone 143 = some (.lastore) := by decide +kernel
theorem aX3_performAlone_144 : mm_at mX3_performAlone 144 = some (.iconst 0) := by decide +kernel
theorem aX3_performAlone_145 : mm_at mX3_performAlone 145 = some (.ireturn) := by decide +kernel
theorem aX3_performAlone_146 : mm_at mX3_performAlone 146 = some (.aload_n 0) := by decide +kernel
theorem aX3_performAlone_147 : mm_at mX3_performAlone 147 = some (.aload_n 1) := by decide +kernel
theorem aX3_performAlone_148 : mm_at mX3_performAlone 148 = some (.getfield 163) := by decide +kernel
theorem aX3_performAlone_151 : mm_at mX3_performAlone 151 = some (.lload_n 2) := by decide +kernel
theorem aX3_performAlone_152 : mm_at mX3_performAlone 152 = some (.invokevirtual 196) := by decide +kernel
theorem aX3_performAlone_155 : mm_at mX3_performAlone 155 = some (.ireturn) := by decide +kernel
theorem aX3_performAlone_156 : mm_at mX3_performAlone 156 = some (.aload_n 0) := by decide +kernel
theorem aX3_performAlone_157 : mm_at mX3_performAlone 157 = some (.lload_n 2) := by decide +kernel
theorem aX3_performAlone_158 : mm_at mX3_performAlone 158 = some (.aload_n 1) := by decide +kernel
theorem aX3_performAlone_159 : mm_at mX3_performAlone 159 = some (.getfield 166) := by decide +kernel
theorem aX3_performAlone_162 : mm_at mX3_performAlone 162 = some (.invokevirtual 199) := by decide +kernel
theorem aX3_performAlone_165 : mm_at mX3_performAlone 165 = some (.ireturn) := by decide +kernel
theorem aX3_performAlone_166 : mm_at mX3_performAlone 166 = some (.aload_n 0) := by decide +kernel
theorem aX3_performAlone_167 : mm_at mX3_performAlone 167 = some (.getfield 22) := by decide +kernel
theorem aX3_performAlone_170 : mm_at mX3_performAlone 170 = some (.aload_n 1) := by decide +kernel
theorem aX3_performAlone_171 : mm_at mX3_performAlone 171 = some (.getfield 163) := by decide +kernel
theorem aX3_performAlone_174 : mm_at mX3_performAlone 174 = some (.lload_n 2) := by decide +kernel
theorem aX3_performAlone_175 : mm_at mX3_performAlone 175 = some (.aload_n 1) := by decide +kernel
theorem aX3_performAlone_176 : mm_at mX3_performAlone 176 = some (.getfield 166) := by decide +kernel
theorem aX3_performAlone_179 : mm_at mX3_performAlone 179 = some (.i2l) := by decide +kernel
theorem aX3_performAlone_180 : mm_at mX3_performAlone 180 = some (.ladd) := by decide +kernel
theorem aX3_performAlone_181 : mm_at mX3_performAlone 181 = some (.invokevirtual 203) := by decide +kernel
theorem aX3_performAlone_184 : mm_at mX3_performAlone 184 = some (.ifCond .eq 7) := by decide +kernel
theorem aX3_performAlone_187 : mm_at mX3_performAlone 187 = some (.iconst 0) := by decide +kernel
theorem aX3_performAlone_188 : mm_at mX3_performAlone 188 = some (.goto 4) := by decide +kernel
theorem aX3_performAlone_191 : mm_at mX3_performAlone 191 = some (.iconst 4) := by decide +kernel
theorem aX3_performAlone_192 : mm_at mX3_performAlone 192 = some (.ireturn) := by decide +kernel
theorem aX3_performAlone_193 : mm_at mX3_performAlone 193 = some (.aload_n 0) := by decide +kernel
theorem aX3_performAlone_194 : mm_at mX3_performAlone 194 = some (.dup) := by decide +kernel
theorem aX3_performAlone_195 : mm_at mX3_performAlone 195 = some (.getfield 118) := by decide +kernel
theorem aX3_performAlone_198 : mm_at mX3_performAlone 198 = some (.iconst 1) := by decide +kernel
theorem aX3_performAlone_199 : mm_at mX3_performAlone 199 = some (.iadd) := by decide +kernel
theorem aX3_performAlone_200 : mm_at mX3_performAlone 200 = some (.putfield 118) := by decide +kernel
theorem aX3_performAlone_203 : mm_at mX3_performAlone 203 = some (.bipush 7) := by decide +kernel
theorem aX3_performAlone_205 : mm_at mX3_performAlone 205 = some (.ireturn) := by decide +kernel
theorem aX3_performAlone_206 : mm_at mX3_performAlone 206 = some (.aload_n 0) := by decide +kernel
theorem aX3_performAlone_207 : mm_at mX3_performAlone 207 = some (.aload_n 1) := by decide +kernel
theorem aX3_performAlone_208 : mm_at mX3_performAlone 208 = some (.getfield 163) := by decide +kernel
theorem aX3_performAlone_211 : mm_at mX3_performAlone 211 = some (.invokevirtual 206) := by decide +kernel
theorem aX3_performAlone_214 : mm_at mX3_performAlone 214 = some (.iconst 0) := by decide +kernel
theorem aX3_performAlone_215 : mm_at mX3_performAlone 215 = some (.ireturn) := by decide +kernel
theorem aX3_performAlone_216 : mm_at mX3_performAlone 216 = some (.aload_n 0) := by decide +kernel
theorem aX3_performAlone_217 : mm_at mX3_performAlone 217 = some (.getfield 15) := by decide +kernel
theorem aX3_performAlone_220 : mm_at mX3_performAlone 220 = some (.aload_n 1) := by decide +kernel
theorem aX3_performAlone_221 : mm_at mX3_performAlone 221 = some (.getfield 166) := by decide +kernel
theorem aX3_performAlone_224 : mm_at mX3_performAlone 224 = some (.aaload) := by decide +kernel
theorem aX3_performAlone_225 : mm_at mX3_performAlone 225 = some (.aload_n 1) := by decide +kernel
theorem aX3_performAlone_226 : mm_at mX3_performAlone 226 = some (.getfield 163) := by decide +kernel
theorem aX3_performAlone_229 : mm_at mX3_performAlone 229 = some (.invokevirtual 67) := by decide +kernel
theorem aX3_performAlone_232 : mm_at mX3_performAlone 232 = some (.bipush (-3)) := by decide +kernel
theorem aX3_performAlone_234 : mm_at mX3_performAlone 234 = some (.if_icmp .ne 7) := by decide +kernel
theorem aX3_performAlone_237 : mm_at mX3_performAlone 237 = some (.iconst 4) := by decide +kernel
theorem aX3_performAlone_238 : mm_at mX3_performAlone 238 = some (.goto 4) := by decide +kernel
theorem aX3_performAlone_241 : mm_at mX3_performAlone 241 = some (.iconst 0) := by decide +kernel
theorem aX3_performAlone_242 : mm_at mX3_performAlone 242 = some (.ireturn) := by decide +kernel
theorem aX3_performAlone_243 : mm_at mX3_performAlone 243 = some (.iconst 0) := by decide +kernel
theorem aX3_performAlone_244 : mm_at mX3_performAlone 244 = some (.ireturn) := by decide +kernel
theorem aX3_shareTally_0 : mm_at mX3_shareTally 0 = some (.lload_n 2) := by decide +kernel
theorem aX3_shareTally_1 : mm_at mX3_shareTally 1 = some (.lconst 0) := by decide +kernel
theorem aX3_shareTally_2 : mm_at mX3_shareTally 2 = some (.lcmp) := by decide +kernel
theorem aX3_shareTally_3 : mm_at mX3_shareTally 3 = some (.ifCond .ne 5) := by decide +kernel
theorem aX3_shareTally_6 : mm_at mX3_shareTally 6 = some (.iconst 1) := by decide +kernel
theorem aX3_shareTally_7 : mm_at mX3_shareTally 7 = some (.ireturn) := by decide +kernel
theorem aX3_shareTally_8 : mm_at mX3_shareTally 8 = some (.aload_n 0) := by decide +kernel
theorem aX3_shareTally_9 : mm_at mX3_shareTally 9 = some (.getfield 9) := by decide +kernel
theorem aX3_shareTally_12 : mm_at mX3_shareTally 12 = some (.iload_n 1) := by decide +kernel
theorem aX3_shareTally_13 : mm_at mX3_shareTally 13 = some (.dup2) := by decide +kernel
theorem aX3_shareTally_14 : mm_at mX3_shareTally 14 = some (.laload) := by decide +kernel
theorem aX3_shareTally_15 : mm_at mX3_shareTally 15 = some (.lload_n 2) := by decide +kernel
theorem aX3_shareTally_16 : mm_at mX3_shareTally 16 = some (.ldiv) := by decide +kernel
theorem aX3_shareTally_17 : mm_at mX3_shareTally 17 = some (.lastore) := by decide +kernel
theorem aX3_shareTally_18 : mm_at mX3_shareTally 18 = some (.iconst 0) := by decide +kernel
theorem aX3_shareTally_19 : mm_at mX3_shareTally 19 = some (.ireturn) := by decide +kernel
theorem aX3_addAtPlace_0 : mm_at mX3_addAtPlace 0 = some (.lload_n 1) := by decide +kernel
theorem aX3_addAtPlace_1 : mm_at mX3_addAtPlace 1 = some (.invokestatic 45) := by decide +kernel
theorem aX3_addAtPlace_4 : mm_at mX3_addAtPlace 4 = some (.ifCond .ne 5) := by decide +kernel
theorem aX3_addAtPlace_7 : mm_at mX3_addAtPlace 7 = some (.iconst 2) := by decide +kernel
theorem aX3_addAtPlace_8 : mm_at mX3_addAtPlace 8 = some (.ireturn) := by decide +kernel
theorem aX3_addAtPlace_9 : mm_at mX3_addAtPlace 9 = some (.aload_n 0) := by decide +kernel
theorem aX3_addAtPlace_10 : mm_at mX3_addAtPlace 10 = some (.getfield 9) := by decide +kernel
theorem aX3_addAtPlace_13 : mm_at mX3_addAtPlace 13 = some (.lload_n 1) := by decide +kernel
theorem aX3_addAtPlace_14 : mm_at mX3_addAtPlace 14 = some (.l2i) := by decide +kernel
theorem aX3_addAtPlace_15 : mm_at mX3_addAtPlace 15 = some (.dup2) := by decide +kernel
theorem aX3_addAtPlace_16 : mm_at mX3_addAtPlace 16 = some (.laload) := by decide +kernel
theorem aX3_addAtPlace_17 : mm_at mX3_addAtPlace 17 = some (.iload_n 3) := by decide +kernel
theorem aX3_addAtPlace_18 : mm_at mX3_addAtPlace 18 = some (.i2l) := by decide +kernel
theorem aX3_addAtPlace_19 : mm_at mX3_addAtPlace 19 = some (.ladd) := by decide +kernel
theorem aX3_addAtPlace_20 : mm_at mX3_addAtPlace 20 = some (.lastore) := by decide +kernel
theorem aX3_addAtPlace_21 : mm_at mX3_addAtPlace 21 = some (.iconst 0) := by decide +kernel
theorem aX3_addAtPlace_22 : mm_at mX3_addAtPlace 22 = some (.ireturn) := by decide +kernel
theorem aX3_removeFromAllLines_0 : mm_at mX3_removeFromAllLines 0 = some (.iconst 0) := by decide +kernel
theorem aX3_removeFromAllLines_1 : mm_at mX3_removeFromAllLines 1 = some (.istore_n 2) := by decide +kernel
theorem aX3_removeFromAllLines_2 : mm_at mX3_removeFromAllLines 2 = some (.iload_n 2) := by decide +kernel
theorem aX3_removeFromAllLines_3 : mm_at mX3_removeFromAllLines 3 = some (.bipush 6) := by decide +kernel
theorem aX3_removeFromAllLines_5 : mm_at mX3_removeFromAllLines 5 = some (.if_icmp .ge 20) := by decide +kernel
theorem aX3_removeFromAllLines_8 : mm_at mX3_removeFromAllLines 8 = some (.aload_n 0) := by decide +kernel
theorem aX3_removeFromAllLines_9 : mm_at mX3_removeFromAllLines 9 = some (.getfield 15) := by decide +kernel
theorem aX3_removeFromAllLines_12 : mm_at mX3_removeFromAllLines 12 = some (.iload_n 2) := by decide +kernel
theorem aX3_removeFromAllLines_13 : mm_at mX3_removeFromAllLines 13 = some (.aaload) := by decide +kernel
theorem aX3_removeFromAllLines_14 : mm_at mX3_removeFromAllLines 14 = some (.iload_n 1) := by decide +kernel
theorem aX3_removeFromAllLines_15 : mm_at mX3_removeFromAllLines 15 = some (.invokevirtual 71) := by decide +kernel
theorem aX3_removeFromAllLines_18 : mm_at mX3_removeFromAllLines 18 = some (.pop) := by decide +kernel
theorem aX3_removeFromAllLines_19 : mm_at mX3_removeFromAllLines 19 = some (.iinc 2 1) := by decide +kernel
theorem aX3_removeFromAllLines_22 : mm_at mX3_removeFromAllLines 22 = some (.goto (-20)) := by decide +kernel
theorem aX3_removeFromAllLines_25 : mm_at mX3_removeFromAllLines 25 = some (.return_) := by decide +kernel
theorem aX3_metByBell_0 : mm_at mX3_metByBell 0 = some (.aload_n 1) := by decide +kernel
theorem aX3_metByBell_1 : mm_at mX3_metByBell 1 = some (.getfield 53) := by decide +kernel
theorem aX3_metByBell_4 : mm_at mX3_metByBell 4 = some (.ifCond .eq 10) := by decide +kernel
theorem aX3_metByBell_7 : mm_at mX3_metByBell 7 = some (.iload_n 2) := by decide +kernel
theorem aX3_metByBell_8 : mm_at mX3_metByBell 8 = some (.invokestatic 210) := by decide +kernel
theorem aX3_metByBell_11 : mm_at mX3_metByBell 11 = some (.ifCond .ne 5) := by decide +kernel
theorem aX3_metByBell_14 : mm_at mX3_metByBell 14 = some (.iload_n 2) := by decide +kernel
theorem aX3_metByBell_15 : mm_at mX3_metByBell 15 = some (.ireturn) := by decide +kernel
theorem aX3_metByBell_16 : mm_at mX3_metByBell 16 = some (.aload_n 0) := by decide +kernel
theorem aX3_metByBell_17 : mm_at mX3_metByBell 17 = some (.dup) := by decide +kernel
theorem aX3_metByBell_18 : mm_at mX3_metByBell 18 = some (.getfield 109) := by decide +kernel
theorem aX3_metByBell_21 : mm_at mX3_metByBell 21 = some (.iconst 1) := by decide +kernel
theorem aX3_metByBell_22 : mm_at mX3_metByBell 22 = some (.iadd) := by decide +kernel
theorem aX3_metByBell_23 : mm_at mX3_metByBell 23 = some (.putfield 109) := by decide +kernel
theorem aX3_metByBell_26 : mm_at mX3_metByBell 26 = some (.aload_n 0) := by decide +kernel
theorem aX3_metByBell_27 : mm_at mX3_metByBell 27 = some (.dup) := by decide +kernel
theorem aX3_metByBell_28 : mm_at mX3_metByBell 28 = some (.getfield 74) := by decide +kernel
theorem aX3_metByBell_31 : mm_at mX3_metByBell 31 = some (.iconst 1) := by decide +kernel
theorem aX3_metByBell_32 : mm_at mX3_metByBell 32 = some (.iadd) := by decide +kernel
theorem aX3_metByBell_33 : mm_at mX3_metByBell 33 = some (.putfield 74) := by decide +kernel
theorem aX3_metByBell_36 : mm_at mX3_metByBell 36 = some (.iconst 0) := by decide +kernel
theorem aX3_metByBell_37 : mm_at mX3_metByBell 37 = some (.ireturn) := by decide +kernel
theorem aX3_metByTry_0 : mm_at mX3_metByTry 0 = some (.iload_n 2) := by decide +kernel
theorem aX3_metByTry_1 : mm_at mX3_metByTry 1 = some (.invokestatic 210) := by decide +kernel
theorem aX3_metByTry_4 : mm_at mX3_metByTry 4 = some (.ifCond .ne 5) := by decide +kernel
theorem aX3_metByTry_7 : mm_at mX3_metByTry 7 = some (.iload_n 2) := by decide +kernel
theorem aX3_metByTry_8 : mm_at mX3_metByTry 8 = some (.ireturn) := by decide +kernel
theorem aX3_metByTry_9 : mm_at mX3_metByTry 9 = some (.aload_n 0) := by decide +kernel
theorem aX3_metByTry_10 : mm_at mX3_metByTry 10 = some (.getfield 9) := by decide +kernel
theorem aX3_metByTry_13 : mm_at mX3_metByTry 13 = some (.aload_n 1) := by decide +kernel
theorem aX3_metByTry_14 : mm_at mX3_metByTry 14 = some (.getfield 166) := by decide +kernel
theorem aX3_metByTry_17 : mm_at mX3_metByTry 17 = some (.dup2) := by decide +kernel
theorem aX3_metByTry_18 : mm_at mX3_metByTry 18 = some (.laload) := by decide +kernel
theorem aX3_metByTry_19 : mm_at mX3_metByTry 19 = some (.lconst 1) := by decide +kernel
theorem aX3_metByTry_20 : mm_at mX3_metByTry 20 = some (.ladd) := by decide +kernel
theorem aX3_metByTry_21 : mm_at mX3_metByTry 21 = some (.lastore) := by decide +kernel
theorem aX3_metByTry_22 : mm_at mX3_metByTry 22 = some (.aload_n 0) := by decide +kernel
theorem aX3_metByTry_23 : mm_at mX3_metByTry 23 = some (.dup) := by decide +kernel
theorem aX3_metByTry_24 : mm_at mX3_metByTry 24 = some (.getfield 115) := by decide +kernel
theorem aX3_metByTry_27 : mm_at mX3_metByTry 27 = some (.iconst 1) := by decide +kernel
theorem aX3_metByTry_28 : mm_at mX3_metByTry 28 = some (.iadd) := by decide +kernel
theorem aX3_metByTry_29 : mm_at mX3_metByTry 29 = some (.putfield 115) := by decide +kernel
theorem aX3_metByTry_32 : mm_at mX3_metByTry 32 = some (.aload_n 0) := by decide +kernel
theorem aX3_metByTry_33 : mm_at mX3_metByTry 33 = some (.dup) := by decide +kernel
theorem aX3_metByTry_34 : mm_at mX3_metByTry 34 = some (.getfield 74) := by decide +kernel
theorem aX3_metByTry_37 : mm_at mX3_metByTry 37 = some (.iconst 1) := by decide +kernel
theorem aX3_metByTry_38 : mm_at mX3_metByTry 38 = some (.iadd) := by decide +kernel
theorem aX3_metByTry_39 : mm_at mX3_metByTry 39 = some (.putfield 74) := by decide +kernel
theorem aX3_metByTry_42 : mm_at mX3_metByTry 42 = some (.iconst 0) := by decide +kernel
theorem aX3_metByTry_43 : mm_at mX3_metByTry 43 = some (.ireturn) := by decide +kernel
theorem aX3_canBeMet_0 : mm_at mX3_canBeMet 0 = some (.iload_n 0) := by decide +kernel
theorem aX3_canBeMet_1 : mm_at mX3_canBeMet 1 = some (.iconst 1) := by decide +kernel
theorem aX3_canBeMet_2 : mm_at mX3_canBeMet 2 = some (.if_icmp .eq 18) := by decide +kernel
theorem aX3_canBeMet_5 : mm_at mX3_canBeMet 5 = some (.iload_n 0) := by decide +kernel
theorem aX3_canBeMet_6 : mm_at mX3_canBeMet 6 = some (.iconst 2) := by decide +kernel
theorem aX3_canBeMet_7 : mm_at mX3_canBeMet 7 = some (.if_icmp .eq 13) := by decide +kernel
theorem aX3_canBeMet_10 : mm_at mX3_canBeMet 10 = some (.iload_n 0) := by decide +kernel
theorem aX3_canBeMet_11 : mm_at mX3_canBeMet 11 = some (.iconst 3) := by decide +kernel
theorem aX3_canBeMet_12 : mm_at mX3_canBeMet 12 = some (.if_icmp .eq 8) := by decide +kernel
theorem aX3_canBeMet_15 : mm_at mX3_canBeMet 15 = some (.iload_n 0) := by decide +kernel
theorem aX3_canBeMet_16 : mm_at mX3_canBeMet 16 = some (.iconst 4) := by decide +kernel
theorem aX3_canBeMet_17 : mm_at mX3_canBeMet 17 = some (.if_icmp .ne 7) := by decide +kernel
theorem aX3_canBeMet_20 : mm_at mX3_canBeMet 20 = some (.iconst 1) := by decide +kernel
theorem aX3_canBeMet_21 : mm_at mX3_canBeMet 21 = some (.goto 4) := by decide +kernel
theorem aX3_canBeMet_24 : mm_at mX3_canBeMet 24 = some (.iconst 0) := by decide +kernel
theorem aX3_canBeMet_25 : mm_at mX3_canBeMet 25 = some (.ireturn) := by decide +kernel
theorem aX3_wellIfStopped_0 : mm_at mX3_wellIfStopped 0 = some (.iload_n 0) := by decide +kernel
theorem aX3_wellIfStopped_1 : mm_at mX3_wellIfStopped 1 = some (.bipush 7) := by decide +kernel
theorem aX3_wellIfStopped_3 : mm_at mX3_wellIfStopped 3 = some (.if_icmp .ne 7) := by decide +kernel
theorem aX3_wellIfStopped_6 : mm_at mX3_wellIfStopped 6 = some (.iconst 0) := by decide +kernel
theorem aX3_wellIfStopped_7 : mm_at mX3_wellIfStopped 7 = some (.goto 4) := by decide +kernel
theorem aX3_wellIfStopped_10 : mm_at mX3_wellIfStopped 10 = some (.iload_n 0) := by decide +kernel
theorem aX3_wellIfStopped_11 : mm_at mX3_wellIfStopped 11 = some (.ireturn) := by decide +kernel
theorem aX4_init_0 : mm_at mX4_init 0 = some (.aload_n 0) := by decide +kernel
theorem aX4_init_1 : mm_at mX4_init 1 = some (.invokespecial 1) := by decide +kernel
theorem aX4_init_4 : mm_at mX4_init 4 = some (.aload_n 0) := by decide +kernel
theorem aX4_init_5 : mm_at mX4_init 5 = some (.bipush 8) := by decide +kernel
theorem aX4_init_7 : mm_at mX4_init 7 = some (.newarray .long) := by decide +kernel
theorem aX4_init_9 : mm_at mX4_init 9 = some (.putfield 7) := by decide +kernel
theorem aX4_init_12 : mm_at mX4_init 12 = some (.aload_n 0) := by decide +kernel
theorem aX4_init_13 : mm_at mX4_init 13 = some (.bipush 6) := by decide +kernel
theorem aX4_init_15 : mm_at mX4_init 15 = some (.newarray .int) := by decide +kernel
theorem aX4_init_17 : mm_at mX4_init 17 = some (.putfield 13) := by decide +kernel
theorem aX4_init_20 : mm_at mX4_init 20 = some (.aload_n 0) := by decide +kernel
theorem aX4_init_21 : mm_at mX4_init 21 = some (.bipush 72) := by decide +kernel
theorem aX4_init_23 : mm_at mX4_init 23 = some (.newarray .int) := by decide +kernel
theorem aX4_init_25 : mm_at mX4_init 25 = some (.putfield 17) := by decide +kernel
theorem aX4_init_28 : mm_at mX4_init 28 = some (.aload_n 0) := by decide +kernel
theorem aX4_init_29 : mm_at mX4_init 29 = some (.bipush 6) := by decide +kernel
theorem aX4_init_31 : mm_at mX4_init 31 = some (.newarray .int) := by decide +kernel
theorem aX4_init_33 : mm_at mX4_init 33 = some (.putfield 20) := by decide +kernel
theorem aX4_init_36 : mm_at mX4_init 36 = some (.aload_n 0) := by decide +kernel
theorem aX4_init_37 : mm_at mX4_init 37 = some (.bipush 40) := by decide +kernel
theorem aX4_init_39 : mm_at mX4_init 39 = some (.newarray .int) := by decide +kernel
theorem aX4_init_41 : mm_at mX4_init 41 = some (.putfield 23) := by decide +kernel
theorem aX4_init_44 : mm_at mX4_init 44 = some (.aload_n 0) := by decide +kernel
theorem aX4_init_45 : mm_at mX4_init 45 = some (.bipush 40) := by decide +kernel
theorem aX4_init_47 : mm_at mX4_init 47 = some (.newarray .int) := by decide +kernel
theorem aX4_init_49 : mm_at mX4_init 49 = some (.putfield 26) := by decide +kernel
theorem aX4_init_52 : mm_at mX4_init 52 = some (.aload_n 0) := by decide +kernel
theorem aX4_init_53 : mm_at mX4_init 53 = some (.bipush 40) := by decide +kernel
theorem aX4_init_55 : mm_at mX4_init 55 = some (.newarray .int) := by decide +kernel
theorem aX4_init_57 : mm_at mX4_init 57 = some (.putfield 29) := by decide +kernel
theorem aX4_init_60 : mm_at mX4_init 60 = some (.aload_n 0) := by decide +kernel
theorem aX4_init_61 : mm_at mX4_init 61 = some (.bipush 40) := by decide +kernel
theorem aX4_init_63 : mm_at mX4_init 63 = some (.newarray .long) := by decide +kernel
theorem aX4_init_65 : mm_at mX4_init 65 = some (.putfield 32) := by decide +kernel
theorem aX4_init_68 : mm_at mX4_init 68 = some (.aload_n 0) := by decide +kernel
theorem aX4_init_69 : mm_at mX4_init 69 = some (.bipush 40) := by decide +kernel
theorem aX4_init_71 : mm_at mX4_init 71 = some (.newarray .int) := by decide +kernel
theorem aX4_init_73 : mm_at mX4_init 73 = some (.putfield 35) := by decide +kernel
theorem aX4_init_76 : mm_at mX4_init 76 = some (.aload_n 0) := by decide +kernel
theorem aX4_init_77 : mm_at mX4_init 77 = some (.bipush 40) := by decide +kernel
theorem aX4_init_79 : mm_at mX4_init 79 = some (.newarray .int) := by decide +kernel
theorem aX4_init_81 : mm_at mX4_init 81 = some (.putfield 38) := by decide +kernel
theorem aX4_init_84 : mm_at mX4_init 84 = some (.aload_n 0) := by decide +kernel
theorem aX4_init_85 : mm_at mX4_init 85 = some (.bipush 40) := by decide +kernel
theorem aX4_init_87 : mm_at mX4_init 87 = some (.newarray .int) := by decide +kernel
theorem aX4_init_89 : mm_at mX4_init 89 = some (.putfield 41) := by decide +kernel
theorem aX4_init_92 : mm_at mX4_init 92 = some (.aload_n 0) := by decide +kernel
theorem aX4_init_93 : mm_at mX4_init 93 = some (.bipush 40) := by decide +kernel
theorem aX4_init_95 : mm_at mX4_init 95 = some (.newarray .int) := by decide +kernel
theorem aX4_init_97 : mm_at mX4_init 97 = some (.putfield 44) := by decide +kernel
theorem aX4_init_100 : mm_at mX4_init 100 = some (.aload_n 0) := by decide +kernel
theorem aX4_init_101 : mm_at mX4_init 101 = some (.bipush 40) := by decide +kernel
theorem aX4_init_103 : mm_at mX4_init 103 = some (.newarray .int) := by decide +kernel
theorem aX4_init_105 : mm_at mX4_init 105 = some (.putfield 47) := by decide +kernel
theorem aX4_init_108 : mm_at mX4_init 108 = some (.aload_n 0) := by decide +kernel
theorem aX4_init_109 : mm_at mX4_init 109 = some (.bipush 20) := by decide +kernel
theorem aX4_init_111 : mm_at mX4_init 111 = some (.newarray .int) := by decide +kernel
theorem aX4_init_113 : mm_at mX4_init 113 = some (.putfield 50) := by decide +kernel
theorem aX4_init_116 : mm_at mX4_init 116 = some (.aload_n 0) := by decide +kernel
theorem aX4_init_117 : mm_at mX4_init 117 = some (.bipush 20) := by decide +kernel
theorem aX4_init_119 : mm_at mX4_init 119 = some (.newarray .long) := by decide +kernel
theorem aX4_init_121 : mm_at mX4_init 121 = some (.putfield 53) := by decide +kernel
theorem aX4_init_124 : mm_at mX4_init 124 = some (.aload_n 0) := by decide +kernel
theorem aX4_init_125 : mm_at mX4_init 125 = some (.sipush 600) := by decide +kernel
theorem aX4_init_128 : mm_at mX4_init 128 = some (.newarray .int) := by decide +kernel
theorem aX4_init_130 : mm_at mX4_init 130 = some (.putfield 56) := by decide +kernel
theorem aX4_init_133 : mm_at mX4_init 133 = some (.aload_n 0) := by decide +kernel
theorem aX4_init_134 : mm_at mX4_init 134 = some (.sipush 600) := by decide +kernel
theorem aX4_init_137 : mm_at mX4_init 137 = some (.newarray .int) := by decide +kernel
theorem aX4_init_139 : mm_at mX4_init 139 = some (.putfield 59) := by decide +kernel
theorem aX4_init_142 : mm_at mX4_init 142 = some (.aload_n 0) := by decide +kernel
theorem aX4_init_143 : mm_at mX4_init 143 = some (.sipush 600) := by decide +kernel
theorem aX4_init_146 : mm_at mX4_init 146 = some (.newarray .long) := by decide +kernel
theorem aX4_init_148 : mm_at mX4_init 148 = some (.putfield 62) := by decide +kernel
theorem aX4_init_151 : mm_at mX4_init 151 = some (.aload_n 0) := by decide +kernel
theorem aX4_init_152 : mm_at mX4_init 152 = some (.sipush 600) := by decide +kernel
theorem aX4_init_155 : mm_at mX4_init 155 = some (.newarray .int) := by decide +kernel
theorem aX4_init_157 : mm_at mX4_init 157 = some (.putfield 65) := by decide +kernel
theorem aX4_init_160 : mm_at mX4_init 160 = some (.aload_n 0) := by decide +kernel
theorem aX4_init_161 : mm_at mX4_init 161 = some (.sipush 600) := by decide +kernel
theorem aX4_init_164 : mm_at mX4_init 164 = some (.newarray .int) := by decide +kernel
theorem aX4_init_166 : mm_at mX4_init 166 = some (.putfield 68) := by decide +kernel
theorem aX4_init_169 : mm_at mX4_init 169 = some (.aload_n 0) := by decide +kernel
theorem aX4_init_170 : mm_at mX4_init 170 = some (.sipush 7200) := by decide +kernel
theorem aX4_init_173 : mm_at mX4_init 173 = some (.newarray .int) := by decide +kernel
theorem aX4_init_175 : mm_at mX4_init 175 = some (.putfield 71) := by decide +kernel
theorem aX4_init_178 : mm_at mX4_init 178 = some (.aload_n 0) := by decide +kernel
theorem aX4_init_179 : mm_at mX4_init 179 = some (.bipush 10) := by decide +kernel
theorem aX4_init_181 : mm_at mX4_init 181 = some (.newarray .int) := by decide +kernel
theorem aX4_init_183 : mm_at mX4_init 183 = some (.putfield 74) := by decide +kernel
theorem aX4_init_186 : mm_at mX4_init 186 = some (.aload_n 0) := by decide +kernel
theorem aX4_init_187 : mm_at mX4_init 187 = some (.iconst 0) := by decide +kernel
theorem aX4_init_188 : mm_at mX4_init 188 = some (.iconst 0) := by decide +kernel
theorem aX4_init_189 : mm_at mX4_init 189 = some (.iconst 0) := by decide +kernel
theorem aX4_init_190 : mm_at mX4_init 190 = some (.invokevirtual 77) := by decide +kernel
theorem aX4_init_193 : mm_at mX4_init 193 = some (.aload_n 0) := by decide +kernel
theorem aX4_init_194 : mm_at mX4_init 194 = some (.bipush 7) := by decide +kernel
theorem aX4_init_196 : mm_at mX4_init 196 = some (.iconst 0) := by decide +kernel
theorem aX4_init_197 : mm_at mX4_init 197 = some (.iconst 0) := by decide +kernel
theorem aX4_init_198 : mm_at mX4_init 198 = some (.invokevirtual 77) := by decide +kernel
theorem aX4_init_201 : mm_at mX4_init 201 = some (.return_) := by decide +kernel
theorem aX4_in_0 : mm_at mX4_in 0 = some (.lload_n 0) := by decide +kernel
theorem aX4_in_1 : mm_at mX4_in 1 = some (.lload_n 2) := by decide +kernel
theorem aX4_in_2 : mm_at mX4_in 2 = some (.lcmp) := by decide +kernel
theorem aX4_in_3 : mm_at mX4_in 3 = some (.ifCond .lt 14) := by decide +kernel
theorem aX4_in_6 : mm_at mX4_in 6 = some (.lload_n 0) := by decide +kernel
theorem aX4_in_7 : mm_at mX4_in 7 = some (.lload 4) := by decide +kernel
theorem aX4_in_9 : mm_at mX4_in 9 = some (.lcmp) := by decide +kernel
theorem aX4_in_10 : mm_at mX4_in 10 = some (.ifCond .gt 7) := by decide +kernel
theorem aX4_in_13 : mm_at mX4_in 13 = some (.iconst 1) := by decide +kernel
theorem aX4_in_14 : mm_at mX4_in 14 = some (.goto 4) := by decide +kernel
theorem aX4_in_17 : mm_at mX4_in 17 = some (.iconst 0) := by decide +kernel
theorem aX4_in_18 : mm_at mX4_in 18 = some (.ireturn) := by decide +kernel
theorem aX4_isHearer_0 : mm_at mX4_isHearer 0 = some (.iload_n 1) := by decide +kernel
theorem aX4_isHearer_1 : mm_at mX4_isHearer 1 = some (.i2l) := by decide +kernel
theorem aX4_isHearer_2 : mm_at mX4_isHearer 2 = some (.lconst 0) := by decide +kernel
theorem aX4_isHearer_3 : mm_at mX4_isHearer 3 = some (.aload_n 0) := by decide +kernel
theorem aX4_isHearer_4 : mm_at mX4_isHearer 4 = some (.getfield 81) := by decide +kernel
theorem aX4_isHearer_7 : mm_at mX4_isHearer 7 = some (.iconst 1) := by decide +kernel
theorem aX4_isHearer_8 : mm_at mX4_isHearer 8 = some (.isub) := by decide +kernel
theorem aX4_isHearer_9 : mm_at mX4_isHearer 9 = some (.i2l) := by decide +kernel
theorem aX4_isHearer_10 : mm_at mX4_isHearer 10 = some (.invokestatic 85) := by decide +kernel
theorem aX4_isHearer_13 : mm_at mX4_isHearer 13 = some (.ireturn) := by decide +kernel
theorem aX4_isBell_0 : mm_at mX4_isBell 0 = some (.iload_n 0) := by decide +kernel
theorem aX4_isBell_1 : mm_at mX4_isBell 1 = some (.i2l) := by decide +kernel
theorem aX4_isBell_2 : mm_at mX4_isBell 2 = some (.lconst 0) := by decide +kernel
theorem aX4_isBell_3 : mm_at mX4_isBell 3 = some (.ldc2_w 89) := by decide +kernel
theorem aX4_isBell_6 : mm_at mX4_isBell 6 = some (.invokestatic 85) := by decide +kernel
theorem aX4_isBell_9 : mm_at mX4_isBell 9 = some (.ireturn) := by decide +kernel
theorem aX4_isTally_0 : mm_at mX4_isTally 0 = some (.iload_n 0) := by decide +kernel
theorem aX4_isTally_1 : mm_at mX4_isTally 1 = some (.i2l) := by decide +kernel
theorem aX4_isTally_2 : mm_at mX4_isTally 2 = some (.lconst 0) := by decide +kernel
theorem aX4_isTally_3 : mm_at mX4_isTally 3 = some (.ldc2_w 91) := by decide +kernel
theorem aX4_isTally_6 : mm_at mX4_isTally 6 = some (.invokestatic 85) := by decide +kernel
theorem aX4_isTally_9 : mm_at mX4_isTally 9 = some (.ireturn) := by decide +kernel
theorem aX4_tally_0 : mm_at mX4_tally 0 = some (.iload_n 1) := by decide +kernel
theorem aX4_tally_1 : mm_at mX4_tally 1 = some (.invokestatic 93) := by decide +kernel
theorem aX4_tally_4 : mm_at mX4_tally 4 = some (.ifCond .ne 6) := by decide +kernel
theorem aX4_tally_7 : mm_at mX4_tally 7 = some (.bipush (-2)) := by decide +kernel
theorem aX4_tally_9 : mm_at mX4_tally 9 = some (.ireturn) := by decide +kernel
theorem aX4_tally_10 : mm_at mX4_tally 10 = some (.aload_n 0) := by decide +kernel
theorem aX4_tally_11 : mm_at mX4_tally 11 = some (.getfield 7) := by decide +kernel
theorem aX4_tally_14 : mm_at mX4_tally 14 = some (.iload_n 1) := by decide +kernel
theorem aX4_tally_15 : mm_at mX4_tally 15 = some (.lload_n 2) := by decide +kernel
theorem aX4_tally_16 : mm_at mX4_tally 16 = some (.lastore) := by decide +kernel
theorem aX4_tally_17 : mm_at mX4_tally 17 = some (.iconst 1) := by decide +kernel
theorem aX4_tally_18 : mm_at mX4_tally 18 = some (.ireturn) := by decide +kernel
theorem aX4_way_0 : mm_at mX4_way 0 = some (.iload_n 1) := by decide +kernel
theorem aX4_way_1 : mm_at mX4_way 1 = some (.invokestatic 97) := by decide +kernel
theorem aX4_way_4 : mm_at mX4_way 4 = some (.ifCond .eq 13) := by decide +kernel
theorem aX4_way_7 : mm_at mX4_way 7 = some (.iload_n 2) := by decide +kernel
theorem aX4_way_8 : mm_at mX4_way 8 = some (.i2l) := by decide +kernel
theorem aX4_way_9 : mm_at mX4_way 9 = some (.lconst 0) := by decide +kernel
theorem aX4_way_10 : mm_at mX4_way 10 = some (.lconst 1) := by decide +kernel
theorem aX4_way_11 : mm_at mX4_way 11 = some (.invokestatic 85) := by decide +kernel
theorem aX4_way_14 : mm_at mX4_way 14 = some (.ifCond .ne 6) := by decide +kernel
theorem aX4_way_17 : mm_at mX4_way 17 = some (.bipush (-2)) := by decide +kernel
theorem aX4_way_19 : mm_at mX4_way 19 = some (.ireturn) := by decide +kernel
theorem aX4_way_20 : mm_at mX4_way 20 = some (.aload_n 0) := by decide +kernel
theorem aX4_way_21 : mm_at mX4_way 21 = some (.getfield 13) := by decide +kernel
theorem aX4_way_24 : mm_at mX4_way 24 = some (.iload_n 1) := by decide +kernel
theorem aX4_way_25 : mm_at mX4_way 25 = some (.iaload) := by decide +kernel
theorem aX4_way_26 : mm_at mX4_way 26 = some (.istore_n 3) := by decide +kernel
theorem aX4_way_27 : mm_at mX4_way 27 = some (.aload_n 0) := by decide +kernel
theorem aX4_way_28 : mm_at mX4_way 28 = some (.getfield 13) := by decide +kernel
theorem aX4_way_31 : mm_at mX4_way 31 = some (.iload_n 1) := by decide +kernel
theorem aX4_way_32 : mm_at mX4_way 32 = some (.iload_n 2) := by decide +kernel
theorem aX4_way_33 : mm_at mX4_way 33 = some (.iastore) := by decide +kernel
theorem aX4_way_34 : mm_at mX4_way 34 = some (.iload_n 3) := by decide +kernel
theorem aX4_way_35 : mm_at mX4_way 35 = some (.ireturn) := by decide +kernel
theorem aX4_make_0 : mm_at mX4_make 0 = some (.aload_n 0) := by decide +kernel
theorem aX4_make_1 : mm_at mX4_make 1 = some (.getfield 81) := by decide +kernel
theorem aX4_make_4 : mm_at mX4_make 4 = some (.istore 4) := by decide +kernel
theorem aX4_make_6 : mm_at mX4_make 6 = some (.aload_n 0) := by decide +kernel
theorem aX4_make_7 : mm_at mX4_make 7 = some (.getfield 23) := by decide +kernel
theorem aX4_make_10 : mm_at mX4_make 10 = some (.iload 4) := by decide +kernel
theorem aX4_make_12 : mm_at mX4_make 12 = some (.iload_n 1) := by decide +kernel
theorem aX4_make_13 : mm_at mX4_make 13 = some (.iastore) := by decide +kernel
theorem aX4_make_14 : mm_at mX4_make 14 = some (.aload_n 0) := by decide +kernel
theorem aX4_make_15 : mm_at mX4_make 15 = some (.getfield 26) := by decide +kernel
theorem aX4_make_18 : mm_at mX4_make 18 = some (.iload 4) := by decide +kernel
theorem aX4_make_20 : mm_at mX4_make 20 = some (.iload_n 2) := by decide +kernel
theorem aX4_make_21 : mm_at mX4_make 21 = some (.iastore) := by decide +kernel
theorem aX4_make_22 : mm_at mX4_make 22 = some (.aload_n 0) := by decide +kernel
theorem aX4_make_23 : mm_at mX4_make 23 = some (.getfield 29) := by decide +kernel
theorem aX4_make_26 : mm_at mX4_make 26 = some (.iload 4) := by decide +kernel
theorem aX4_make_28 : mm_at mX4_make 28 = some (.iload_n 3) := by decide +kernel
theorem aX4_make_29 : mm_at mX4_make 29 = some (.iastore) := by decide +kernel
theorem aX4_make_30 : mm_at mX4_make 30 = some (.aload_n 0) := by decide +kernel
theorem aX4_make_31 : mm_at mX4_make 31 = some (.getfield 32) := by decide +kernel
theorem aX4_make_34 : mm_at mX4_make 34 = some (.iload 4) := by decide +kernel
theorem aX4_make_36 : mm_at mX4_make 36 = some (.iload_n 1) := by decide +kernel
theorem aX4_make_37 : mm_at mX4_make 37 = some (.iconst 2) := by decide +kernel
theorem aX4_make_38 : mm_at mX4_make 38 = some (.if_icmp .ne 12) := by decide +kernel
theorem aX4_make_41 : mm_at mX4_make 41 = some (.aload_n 0) := by decide +kernel
theorem aX4_make_42 : mm_at mX4_make 42 = some (.getfield 7) := by decide +kernel
theorem aX4_make_45 : mm_at mX4_make 45 = some (.iload_n 2) := by decide +kernel
theorem aX4_make_46 : mm_at mX4_make 46 = some (.laload) := by decide +kernel
theorem aX4_make_47 : mm_at mX4_make 47 = some (.goto 4) := by decide +kernel
theorem aX4_make_50 : mm_at mX4_make 50 = some (.lconst 0) := by decide +kernel
theorem aX4_make_51 : mm_at mX4_make 51 = some (.lastore) := by decide +kernel
theorem aX4_make_52 : mm_at mX4_make 52 = some (.aload_n 0) := by decide +kernel
theorem aX4_make_53 : mm_at mX4_make 53 = some (.getfield 35) := by decide +kernel
theorem aX4_make_56 : mm_at mX4_make 56 = some (.iload 4) := by decide +kernel
theorem aX4_make_58 : mm_at mX4_make 58 = some (.iload_n 1) := by decide +kernel
theorem aX4_make_59 : mm_at mX4_make 59 = some (.i2l) := by decide +kernel
theorem aX4_make_60 : mm_at mX4_make 60 = some (.ldc2_w 100) := by decide +kernel
theorem aX4_make_63 : mm_at mX4_make 63 = some (.ldc2_w 102) := by decide +kernel
theorem aX4_make_66 : mm_at mX4_make 66 = some (.invokestatic 85) := by decide +kernel
theorem aX4_make_69 : mm_at mX4_make 69 = some (.ifCond .eq 12) := by decide +kernel
theorem aX4_make_72 : mm_at mX4_make 72 = some (.aload_n 0) := by decide +kernel
theorem aX4_make_73 : mm_at mX4_make 73 = some (.getfield 47) := by decide +kernel
theorem aX4_make_76 : mm_at mX4_make 76 = some (.iload_n 2) := by decide +kernel
theorem aX4_make_77 : mm_at mX4_make 77 = some (.iaload) := by decide +kernel
theorem aX4_make_78 : mm_at mX4_make 78 = some (.goto 4) := by decide +kernel
theorem aX4_make_81 : mm_at mX4_make 81 = some (.iconst (-1)) := by decide +kernel
theorem aX4_make_82 : mm_at mX4_make 82 = some (.iastore) := by decide +kernel
theorem aX4_make_83 : mm_at mX4_make 83 = some (.aload_n 0) := by decide +kernel
theorem aX4_make_84 : mm_at mX4_make 84 = some (.getfield 38) := by decide +kernel
theorem aX4_make_87 : mm_at mX4_make 87 = some (.iload 4) := by decide +kernel
theorem aX4_make_89 : mm_at mX4_make 89 = some (.iload_n 1) := by decide +kernel
theorem aX4_make_90 : mm_at mX4_make 90 = some (.bipush 11) := by decide +kernel
theorem aX4_make_92 : mm_at mX4_make 92 = some (.if_icmp .ne 12) := by decide +kernel
theorem aX4_make_95 : mm_at mX4_make 95 = some (.aload_n 0) := by decide +kernel
theorem aX4_make_96 : mm_at mX4_make 96 = some (.getfield 47) := by decide +kernel
theorem aX4_make_99 : mm_at mX4_make 99 = some (.iload_n 3) := by decide +kernel
theorem aX4_make_100 : mm_at mX4_make 100 = some (.iaload) := by decide +kernel
theorem aX4_make_101 : mm_at mX4_make 101 = some (.goto 4) := by decide +kernel
theorem aX4_make_104 : mm_at mX4_make 104 = some (.iconst (-1)) := by decide +kernel
theorem aX4_make_105 : mm_at mX4_make 105 = some (.iastore) := by decide +kernel
theorem aX4_make_106 : mm_at mX4_make 106 = some (.aload_n 0) := by decide +kernel
theorem aX4_make_107 : mm_at mX4_make 107 = some (.getfield 41) := by decide +kernel
theorem aX4_make_110 : mm_at mX4_make 110 = some (.iload 4) := by decide +kernel
theorem aX4_make_112 : mm_at mX4_make 112 = some (.iconst 0) := by decide +kernel
theorem aX4_make_113 : mm_at mX4_make 113 = some (.iastore) := by decide +kernel
theorem aX4_make_114 : mm_at mX4_make 114 = some (.aload_n 0) := by decide +kernel
theorem aX4_make_115 : mm_at mX4_make 115 = some (.getfield 44) := by decide +kernel
theorem aX4_make_118 : mm_at mX4_make 118 = some (.iload 4) := by decide +kernel
theorem aX4_make_120 : mm_at mX4_make 120 = some (.iconst 0) := by decide +kernel
theorem aX4_make_121 : mm_at mX4_make 121 = some (.iastore) := by decide +kernel
theorem aX4_make_122 : mm_at mX4_make 122 = some (.aload_n 0) := by decide +kernel
theorem aX4_make_123 : mm_at mX4_make 123 = some (.getfield 47) := by decide +kernel
theorem aX4_make_126 : mm_at mX4_make 126 = some (.iload 4) := by decide +kernel
theorem aX4_make_128 : mm_at mX4_make 128 = some (.iload 4) := by decide +kernel
theorem aX4_make_130 : mm_at mX4_make 130 = some (.iastore) := by decide +kernel
theorem aX4_make_131 : mm_at mX4_make 131 = some (.aload_n 0) := by decide +kernel
theorem aX4_make_132 : mm_at mX4_make 132 = some (.dup) := by decide +kernel
theorem aX4_make_133 : mm_at mX4_make 133 = some (.getfield 81) := by decide +kernel
theorem aX4_make_136 : mm_at mX4_make 136 = some (.iconst 1) := by decide +kernel
theorem aX4_make_137 : mm_at mX4_make 137 = some (.iadd) := by decide +kernel
theorem aX4_make_138 : mm_at mX4_make 138 = some (.putfield 81) := by decide +kernel
theorem aX4_make_141 : mm_at mX4_make 141 = some (.aload_n 0) := by decide +kernel
theorem aX4_make_142 : mm_at mX4_make 142 = some (.getfield 74) := by decide +kernel
theorem aX4_make_145 : mm_at mX4_make 145 = some (.iconst 0) := by decide +kernel
theorem aX4_make_146 : mm_at mX4_make 146 = some (.aload_n 0) := by decide +kernel
theorem aX4_make_147 : mm_at mX4_make 147 = some (.getfield 81) := by decide +kernel
theorem aX4_make_150 : mm_at mX4_make 150 = some (.iastore) := by decide +kernel
theorem aX4_make_151 : mm_at mX4_make 151 = some (.return_) := by decide +kernel
theorem aX4_hearer_0 : mm_at mX4_hearer 0 = some (.iload_n 1) := by decide +kernel
theorem aX4_hearer_1 : mm_at mX4_hearer 1 = some (.i2l) := by decide +kernel
theorem aX4_hearer_2 : mm_at mX4_hearer 2 = some (.lconst 0) := by decide +kernel
theorem aX4_hearer_3 : mm_at mX4_hearer 3 = some (.ldc2_w 104) := by decide +kernel
theorem aX4_hearer_6 : mm_at mX4_hearer 6 = some (.invokestatic 85) := by decide +kernel
theorem aX4_hearer_9 : mm_at mX4_hearer 9 = some (.ifCond .ne 6) := by decide +kernel
theorem aX4_hearer_12 : mm_at mX4_hearer 12 = some (.bipush (-2)) := by decide +kernel
theorem aX4_hearer_14 : mm_at mX4_hearer 14 = some (.ireturn) := by decide +kernel
theorem aX4_hearer_15 : mm_at mX4_hearer 15 = some (.iload_n 1) := by decide +kernel
theorem aX4_hearer_16 : mm_at mX4_hearer 16 = some (.iconst 4) := by decide +kernel
theorem aX4_hearer_17 : mm_at mX4_hearer 17 = some (.if_icmp .ge 10) := by decide +kernel
theorem aX4_hearer_20 : mm_at mX4_hearer 20 = some (.iload_n 2) := by decide +kernel
theorem aX4_hearer_21 : mm_at mX4_hearer 21 = some (.invokestatic 93) := by decide +kernel
theorem aX4_hearer_24 : mm_at mX4_hearer 24 = some (.ifCond .eq 22) := by decide +kernel
theorem aX4_hearer_27 : mm_at mX4_hearer 27 = some (.iload_n 1) := by decide +kernel
theorem aX4_hearer_28 : mm_at mX4_hearer 28 = some (.bipush 10) := by decide +kernel
theorem aX4_hearer_30 : mm_at mX4_hearer 30 = some (.if_icmp .eq 9) := by decide +kernel
theorem aX4_hearer_33 : mm_at mX4_hearer 33 = some (.iload_n 1) := by decide +kernel
theorem aX4_hearer_34 : mm_at mX4_hearer 34 = some (.bipush 12) := by decide +kernel
theorem aX4_hearer_36 : mm_at mX4_hearer 36 = some (.if_icmp .ne 13) := by decide +kernel
theorem aX4_hearer_39 : mm_at mX4_hearer 39 = some (.iload_n 3) := by decide +kernel
theorem aX4_hearer_40 : mm_at mX4_hearer 40 = some (.invokestatic 93) := by decide +kernel
theorem aX4_hearer_43 : mm_at mX4_hearer 43 = some (.ifCond .ne 6) := by decide +kernel
theorem aX4_hearer_46 : mm_at mX4_hearer 46 = some (.bipush (-2)) := by decide +kernel
theorem aX4_hearer_48 : mm_at mX4_hearer 48 = some (.ireturn) := by decide +kernel
theorem aX4_hearer_49 : mm_at mX4_hearer 49 = some (.iload_n 1) := by decide +kernel
theorem aX4_hearer_50 : mm_at mX4_hearer 50 = some (.iconst 5) := by decide +kernel
theorem aX4_hearer_51 : mm_at mX4_hearer 51 = some (.if_icmp .eq 9) := by decide +kernel
theorem aX4_hearer_54 : mm_at mX4_hearer 54 = some (.iload_n 1) := by decide +kernel
theorem aX4_hearer_55 : mm_at mX4_hearer 55 = some (.bipush 6) := by decide +kernel
theorem aX4_hearer_57 : mm_at mX4_hearer 57 = some (.if_icmp .ne 10) := by decide +kernel
theorem aX4_hearer_60 : mm_at mX4_hearer 60 = some (.iload_n 2) := by decide +kernel
theorem aX4_hearer_61 : mm_at mX4_hearer 61 = some (.invokestatic 97) := by decide +kernel
theorem aX4_hearer_64 : mm_at mX4_hearer 64 = some (.ifCond .eq 16) := by decide +kernel
theorem aX4_hearer_67 : mm_at mX4_hearer 67 = some (.iload_n 1) := by decide +kernel
theorem aX4_hearer_68 : mm_at mX4_hearer 68 = some (.bipush 14) := by decide +kernel
theorem aX4_hearer_70 : mm_at mX4_hearer 70 = some (.if_icmp .ne 13) := by decide +kernel
theorem aX4_hearer_73 : mm_at mX4_hearer 73 = some (.iload_n 3) := by decide +kernel
theorem aX4_hearer_74 : mm_at mX4_hearer 74 = some (.invokestatic 97) := by decide +kernel
theorem aX4_hearer_77 : mm_at mX4_hearer 77 = some (.ifCond .ne 6) := by decide +kernel
theorem aX4_hearer_80 : mm_at mX4_hearer 80 = some (.bipush (-2)) := by decide +kernel
theorem aX4_hearer_82 : mm_at mX4_hearer 82 = some (.ireturn) := by decide +kernel
theorem aX4_hearer_83 : mm_at mX4_hearer 83 = some (.iload_n 1) := by decide +kernel
theorem aX4_hearer_84 : mm_at mX4_hearer 84 = some (.bipush 8) := by decide +kernel
theorem aX4_hearer_86 : mm_at mX4_hearer 86 = some (.if_icmp .lt 11) := by decide +kernel
theorem aX4_hearer_89 : mm_at mX4_hearer 89 = some (.aload_n 0) := by decide +kernel
theorem aX4_hearer_90 : mm_at mX4_hearer 90 = some (.iload_n 2) := by decide +kernel
theorem aX4_hearer_91 : mm_at mX4_hearer 91 = some (.invokevirtual 106) := by decide +kernel
theorem aX4_hearer_94 : mm_at mX4_hearer 94 = some (.ifCond .eq 17) := by decide +kernel
theorem aX4_hearer_97 : mm_at mX4_hearer 97 = some (.iload_n 1) := by decide +kernel
theorem aX4_hearer_98 : mm_at mX4_hearer 98 = some (.bipush 11) := by decide +kernel
theorem aX4_hearer_100 : mm_at mX4_hearer 100 = some (.if_icmp .ne 14) := by decide +kernel
theorem aX4_hearer_103 : mm_at mX4_hearer 103 = some (.aload_n 0) := by decide +kernel
theorem aX4_hearer_104 : mm_at mX4_hearer 104 = some (.iload_n 3) := by decide +kernel
theorem aX4_hearer_105 : mm_at mX4_hearer 105 = some (.invokevirtual 106) := by decide +kernel
theorem aX4_hearer_108 : mm_at mX4_hearer 108 = some (.ifCond .ne 6) := by decide +kernel
theorem aX4_hearer_111 : mm_at mX4_hearer 111 = some (.bipush (-2)) := by decide +kernel
theorem aX4_hearer_113 : mm_at mX4_hearer 113 = some (.ireturn) := by decide +kernel
theorem aX4_hearer_114 : mm_at mX4_hearer 114 = some (.aload_n 0) := by decide +kernel
theorem aX4_hearer_115 : mm_at mX4_hearer 115 = some (.getfield 81) := by decide +kernel
theorem aX4_hearer_118 : mm_at mX4_hearer 118 = some (.bipush 40) := by decide +kernel
theorem aX4_hearer_120 : mm_at mX4_hearer 120 = some (.if_icmp .ne 6) := by decide +kernel
theorem aX4_hearer_123 : mm_at mX4_hearer 123 = some (.bipush (-3)) := by decide +kernel
theorem aX4_hearer_125 : mm_at mX4_hearer 125 = some (.ireturn) := by decide +kernel
theorem aX4_hearer_126 : mm_at mX4_hearer 126 = some (.aload_n 0) := by decide +kernel
theorem aX4_hearer_127 : mm_at mX4_hearer 127 = some (.iload_n 1) := by decide +kernel
theorem aX4_hearer_128 : mm_at mX4_hearer 128 = some (.iload_n 2) := by decide +kernel
theorem aX4_hearer_129 : mm_at mX4_hearer 129 = some (.iload_n 3) := by decide +kernel
theorem aX4_hearer_130 : mm_at mX4_hearer 130 = some (.invokevirtual 77) := by decide +kernel
theorem aX4_hearer_133 : mm_at mX4_hearer 133 = some (.aload_n 0) := by decide +kernel
theorem aX4_hearer_134 : mm_at mX4_hearer 134 = some (.getfield 81) := by decide +kernel
theorem aX4_hearer_137 : mm_at mX4_hearer 137 = some (.iconst 1) := by decide +kernel
theorem aX4_hearer_138 : mm_at mX4_hearer 138 = some (.isub) := by decide +kernel
theorem aX4_hearer_139 : mm_at mX4_hearer 139 = some (.ireturn) := by decide +kernel
theorem aX4_placeOf_0 : mm_at mX4_placeOf 0 = some (.iconst (-1)) := by decide +kernel
theorem aX4_placeOf_1 : mm_at mX4_placeOf 1 = some (.istore_n 3) := by decide +kernel
theorem aX4_placeOf_2 : mm_at mX4_placeOf 2 = some (.iconst 0) := by decide +kernel
theorem aX4_placeOf_3 : mm_at mX4_placeOf 3 = some (.istore 4) := by decide +kernel
theorem aX4_placeOf_5 : mm_at mX4_placeOf 5 = some (.iload 4) := by decide +kernel
theorem aX4_placeOf_7 : mm_at mX4_placeOf 7 = some (.aload_n 0) := by decide +kernel
theorem aX4_placeOf_8 : mm_at mX4_placeOf 8 = some (.getfield 20) := by decide +kernel
theorem aX4_placeOf_11 : mm_at mX4_placeOf 11 = some (.iload_n 2) := by decide +kernel
theorem aX4_placeOf_12 : mm_at mX4_placeOf 12 = some (.iaload) := by decide +kernel
theorem aX4_placeOf_13 : mm_at mX4_placeOf 13 = some (.if_icmp .ge 32) := by decide +kernel
theorem aX4_placeOf_16 : mm_at mX4_placeOf 16 = some (.aload_n 0) := by decide +kernel
theorem aX4_placeOf_17 : mm_at mX4_placeOf 17 = some (.getfield 17) := by decide +kernel
theorem aX4_placeOf_20 : mm_at mX4_placeOf 20 = some (.bipush 12) := by decide +kernel
theorem aX4_placeOf_22 : mm_at mX4_placeOf 22 = some (.iload_n 2) := by decide +kernel
theorem aX4_placeOf_23 : mm_at mX4_placeOf 23 = some (.imul) := by decide +kernel
theorem aX4_placeOf_24 : mm_at mX4_placeOf 24 = some (.iload 4) := by decide +kernel
theorem aX4_placeOf_26 : mm_at mX4_placeOf 26 = some (.iadd) := by decide +kernel
theorem aX4_placeOf_27 : mm_at mX4_placeOf 27 = some (.iaload) := by decide +kernel
theorem aX4_placeOf_28 : mm_at mX4_placeOf 28 = some (.iload_n 1) := by decide +kernel
theorem aX4_placeOf_29 : mm_at mX4_placeOf 29 = some (.if_icmp .ne 8) := by decide +kernel
theorem aX4_placeOf_32 : mm_at mX4_placeOf 32 = some (.iload 4) := by decide +kernel
theorem aX4_placeOf_34 : mm_at mX4_placeOf 34 = some (.goto 4) := by decide +kernel
theorem aX4_placeOf_37 : mm_at mX4_placeOf 37 = some (.iload_n 3) := by decide +kernel
theorem aX4_placeOf_38 : mm_at mX4_placeOf 38 = some (.istore_n 3) := by decide +kernel
theorem aX4_placeOf_39 : mm_at mX4_placeOf 39 = some (.iinc 4 1) := by decide +kernel
theorem aX4_placeOf_42 : mm_at mX4_placeOf 42 = some (.goto (-37)) := by decide +kernel
theorem aX4_placeOf_45 : mm_at mX4_placeOf 45 = some (.iload_n 3) := by decide +kernel
theorem aX4_placeOf_46 : mm_at mX4_placeOf 46 = some (.ireturn) := by decide +kernel
theorem aX4_put_0 : mm_at mX4_put 0 = some (.aload_n 0) := by decide +kernel
theorem aX4_put_1 : mm_at mX4_put 1 = some (.getfield 17) := by decide +kernel
theorem aX4_put_4 : mm_at mX4_put 4 = some (.bipush 12) := by decide +kernel
theorem aX4_put_6 : mm_at mX4_put 6 = some (.iload_n 2) := by decide +kernel
theorem aX4_put_7 : mm_at mX4_put 7 = some (.imul) := by decide +kernel
theorem aX4_put_8 : mm_at mX4_put 8 = some (.aload_n 0) := by decide +kernel
theorem aX4_put_9 : mm_at mX4_put 9 = some (.getfield 20) := by decide +kernel
theorem aX4_put_12 : mm_at mX4_put 12 = some (.iload_n 2) := by decide +kernel
theorem aX4_put_13 : mm_at mX4_put 13 = some (.iaload) := by decide +kernel
theorem aX4_put_14 : mm_at mX4_put 14 = some (.iadd) := by decide +kernel
theorem aX4_put_15 : mm_at mX4_put 15 = some (.iload_n 1) := by decide +kernel
theorem aX4_put_16 : mm_at mX4_put 16 = some (.iastore) := by decide +kernel
theorem aX4_put_17 : mm_at mX4_put 17 = some (.aload_n 0) := by decide +kernel
theorem aX4_put_18 : mm_at mX4_put 18 = some (.getfield 20) := by decide +kernel
theorem aX4_put_21 : mm_at mX4_put 21 = some (.iload_n 2) := by decide +kernel
theorem aX4_put_22 : mm_at mX4_put 22 = some (.dup2) := by decide +kernel
theorem aX4_put_23 : mm_at mX4_put 23 = some (.iaload) := by decide +kernel
theorem aX4_put_24 : mm_at mX4_put 24 = some (.iconst 1) := by decide +kernel
theorem aX4_put_25 : mm_at mX4_put 25 = some (.iadd) := by decide +kernel
theorem aX4_put_26 : mm_at mX4_put 26 = some (.iastore) := by decide +kernel
theorem aX4_put_27 : mm_at mX4_put 27 = some (.return_) := by decide +kernel
theorem aX4_out_0 : mm_at mX4_out 0 = some (.aload_n 0) := by decide +kernel
theorem aX4_out_1 : mm_at mX4_out 1 = some (.iload_n 1) := by decide +kernel
theorem aX4_out_2 : mm_at mX4_out 2 = some (.iload_n 2) := by decide +kernel
theorem aX4_out_3 : mm_at mX4_out 3 = some (.invokevirtual 109) := by decide +kernel
theorem aX4_out_6 : mm_at mX4_out 6 = some (.istore_n 3) := by decide +kernel
theorem aX4_out_7 : mm_at mX4_out 7 = some (.iload_n 3) := by decide +kernel
theorem aX4_out_8 : mm_at mX4_out 8 = some (.iconst (-1)) := by decide +kernel
theorem aX4_out_9 : mm_at mX4_out 9 = some (.if_icmp .eq 59) := by decide +kernel
theorem aX4_out_12 : mm_at mX4_out 12 = some (.aload_n 0) := by decide +kernel
theorem aX4_out_13 : mm_at mX4_out 13 = some (.getfield 20) := by decide +kernel
theorem aX4_out_16 : mm_at mX4_out 16 = some (.iload_n 2) := by decide +kernel
theorem aX4_out_17 : mm_at mX4_out 17 = some (.dup2) := by decide +kernel
theorem aX4_out_18 : mm_at mX4_out 18 = some (.iaload) := by decide +kernel
theorem aX4_out_19 : mm_at mX4_out 19 = some (.iconst 1) := by decide +kernel
theorem aX4_out_20 : mm_at mX4_out 20 = some (.isub) := by decide +kernel
theorem aX4_out_21 : mm_at mX4_out 21 = some (.iastore) := by decide +kernel
theorem aX4_out_22 : mm_at mX4_out 22 = some (.iload_n 3) := by decide +kernel
theorem aX4_out_23 : mm_at mX4_out 23 = some (.istore 4) := by decide +kernel
theorem aX4_out_25 : mm_at mX4_out 25 = some (.iload 4) := by decide +kernel
theorem aX4_out_27 : mm_at mX4_out 27 = some (.aload_n 0) := by decide +kernel
theorem aX4_out_28 : mm_at mX4_out 28 = some (.getfield 20) := by decide +kernel
theorem aX4_out_31 : mm_at mX4_out 31 = some (.iload_n 2) := by decide +kernel
theorem aX4_out_32 : mm_at mX4_out 32 = some (.iaload) := by decide +kernel
theorem aX4_out_33 : mm_at mX4_out 33 = some (.if_icmp .ge 35) := by decide +kernel
theorem aX4_out_36 : mm_at mX4_out 36 = some (.aload_n 0) := by decide +kernel
theorem aX4_out_37 : mm_at mX4_out 37 = some (.getfield 17) := by decide +kernel
theorem aX4_out_40 : mm_at mX4_out 40 = some (.bipush 12) := by decide +kernel
theorem aX4_out_42 : mm_at mX4_out 42 = some (.iload_n 2) := by decide +kernel
theorem aX4_out_43 : mm_at mX4_out 43 = some (.imul) := by decide +kernel
theorem aX4_out_44 : mm_at mX4_out 44 = some (.iload 4) := by decide +kernel
theorem aX4_out_46 : mm_at mX4_out 46 = some (.iadd) := by decide +kernel
theorem aX4_out_47 : mm_at mX4_out 47 = some (.aload_n 0) := by decide +kernel
theorem aX4_out_48 : mm_at mX4_out 48 = some (.getfield 17) := by decide +kernel
theorem aX4_out_51 : mm_at mX4_out 51 = some (.bipush 12) := by decide +kernel
theorem aX4_out_53 : mm_at mX4_out 53 = some (.iload_n 2) := by decide +kernel
theorem aX4_out_54 : mm_at mX4_out 54 = some (.imul) := by decide +kernel
theorem aX4_out_55 : mm_at mX4_out 55 = some (.iload 4) := by decide +kernel
theorem aX4_out_57 : mm_at mX4_out 57 = some (.iadd) := by decide +kernel
theorem aX4_out_58 : mm_at mX4_out 58 = some (.iconst 1) := by decide +kernel
theorem aX4_out_59 : mm_at mX4_out 59 = some (.iadd) := by decide +kernel
theorem aX4_out_60 : mm_at mX4_out 60 = some (.iaload) := by decide +kernel
theorem aX4_out_61 : mm_at mX4_out 61 = some (.iastore) := by decide +kernel
end
section
theorem aX4_out_62 : mm_at mX4_out 62 = some (.iinc 4 1) := by decide +kernel
theorem aX4_out_65 : mm_at mX4_out 65 = some (.goto (-40)) := by decide +kernel
theorem aX4_out_68 : mm_at mX4_out 68 = some (.iload_n 3) := by decide +kernel
theorem aX4_out_69 : mm_at mX4_out 69 = some (.ireturn) := by decide +kernel
theorem aX4_bind_0 : mm_at mX4_bind 0 = some (.aload_n 0) := by decide +kernel
theorem aX4_bind_1 : mm_at mX4_bind 1 = some (.iload_n 1) := by decide +kernel
theorem aX4_bind_2 : mm_at mX4_bind 2 = some (.invokevirtual 106) := by decide +kernel
theorem aX4_bind_5 : mm_at mX4_bind 5 = some (.ifCond .eq 10) := by decide +kernel
theorem aX4_bind_8 : mm_at mX4_bind 8 = some (.iload_n 2) := by decide +kernel
theorem aX4_bind_9 : mm_at mX4_bind 9 = some (.invokestatic 97) := by decide +kernel
theorem aX4_bind_12 : mm_at mX4_bind 12 = some (.ifCond .ne 6) := by decide +kernel
theorem aX4_bind_15 : mm_at mX4_bind 15 = some (.bipush (-2)) := by decide +kernel
theorem aX4_bind_17 : mm_at mX4_bind 17 = some (.ireturn) := by decide +kernel
theorem aX4_bind_18 : mm_at mX4_bind 18 = some (.aload_n 0) := by decide +kernel
theorem aX4_bind_19 : mm_at mX4_bind 19 = some (.iload_n 1) := by decide +kernel
theorem aX4_bind_20 : mm_at mX4_bind 20 = some (.iload_n 2) := by decide +kernel
theorem aX4_bind_21 : mm_at mX4_bind 21 = some (.invokevirtual 109) := by decide +kernel
theorem aX4_bind_24 : mm_at mX4_bind 24 = some (.iconst (-1)) := by decide +kernel
theorem aX4_bind_25 : mm_at mX4_bind 25 = some (.if_icmp .eq 5) := by decide +kernel
theorem aX4_bind_28 : mm_at mX4_bind 28 = some (.iconst (-1)) := by decide +kernel
theorem aX4_bind_29 : mm_at mX4_bind 29 = some (.ireturn) := by decide +kernel
theorem aX4_bind_30 : mm_at mX4_bind 30 = some (.aload_n 0) := by decide +kernel
theorem aX4_bind_31 : mm_at mX4_bind 31 = some (.getfield 20) := by decide +kernel
theorem aX4_bind_34 : mm_at mX4_bind 34 = some (.iload_n 2) := by decide +kernel
theorem aX4_bind_35 : mm_at mX4_bind 35 = some (.iaload) := by decide +kernel
theorem aX4_bind_36 : mm_at mX4_bind 36 = some (.bipush 12) := by decide +kernel
theorem aX4_bind_38 : mm_at mX4_bind 38 = some (.if_icmp .ne 6) := by decide +kernel
theorem aX4_bind_41 : mm_at mX4_bind 41 = some (.bipush (-3)) := by decide +kernel
theorem aX4_bind_43 : mm_at mX4_bind 43 = some (.ireturn) := by decide +kernel
theorem aX4_bind_44 : mm_at mX4_bind 44 = some (.aload_n 0) := by decide +kernel
theorem aX4_bind_45 : mm_at mX4_bind 45 = some (.iload_n 1) := by decide +kernel
theorem aX4_bind_46 : mm_at mX4_bind 46 = some (.iload_n 2) := by decide +kernel
theorem aX4_bind_47 : mm_at mX4_bind 47 = some (.invokevirtual 113) := by decide +kernel
theorem aX4_bind_50 : mm_at mX4_bind 50 = some (.aload_n 0) := by decide +kernel
theorem aX4_bind_51 : mm_at mX4_bind 51 = some (.getfield 20) := by decide +kernel
theorem aX4_bind_54 : mm_at mX4_bind 54 = some (.iload_n 2) := by decide +kernel
theorem aX4_bind_55 : mm_at mX4_bind 55 = some (.iaload) := by decide +kernel
theorem aX4_bind_56 : mm_at mX4_bind 56 = some (.iconst 1) := by decide +kernel
theorem aX4_bind_57 : mm_at mX4_bind 57 = some (.isub) := by decide +kernel
theorem aX4_bind_58 : mm_at mX4_bind 58 = some (.ireturn) := by decide +kernel
theorem aX4_leave_0 : mm_at mX4_leave 0 = some (.aload_n 0) := by decide +kernel
theorem aX4_leave_1 : mm_at mX4_leave 1 = some (.iload_n 1) := by decide +kernel
theorem aX4_leave_2 : mm_at mX4_leave 2 = some (.invokevirtual 106) := by decide +kernel
theorem aX4_leave_5 : mm_at mX4_leave 5 = some (.ifCond .eq 19) := by decide +kernel
theorem aX4_leave_8 : mm_at mX4_leave 8 = some (.iload_n 2) := by decide +kernel
theorem aX4_leave_9 : mm_at mX4_leave 9 = some (.invokestatic 97) := by decide +kernel
theorem aX4_leave_12 : mm_at mX4_leave 12 = some (.ifCond .eq 12) := by decide +kernel
theorem aX4_leave_15 : mm_at mX4_leave 15 = some (.aload_n 0) := by decide +kernel
theorem aX4_leave_16 : mm_at mX4_leave 16 = some (.iload_n 1) := by decide +kernel
theorem aX4_leave_17 : mm_at mX4_leave 17 = some (.iload_n 2) := by decide +kernel
theorem aX4_leave_18 : mm_at mX4_leave 18 = some (.invokevirtual 117) := by decide +kernel
theorem aX4_leave_21 : mm_at mX4_leave 21 = some (.goto 5) := by decide +kernel
theorem aX4_leave_24 : mm_at mX4_leave 24 = some (.bipush (-2)) := by decide +kernel
theorem aX4_leave_26 : mm_at mX4_leave 26 = some (.ireturn) := by decide +kernel
theorem aX4_take_0 : mm_at mX4_take 0 = some (.aload_n 0) := by decide +kernel
theorem aX4_take_1 : mm_at mX4_take 1 = some (.iload_n 1) := by decide +kernel
theorem aX4_take_2 : mm_at mX4_take 2 = some (.invokevirtual 106) := by decide +kernel
theorem aX4_take_5 : mm_at mX4_take 5 = some (.ifCond .ne 6) := by decide +kernel
theorem aX4_take_8 : mm_at mX4_take 8 = some (.bipush (-2)) := by decide +kernel
theorem aX4_take_10 : mm_at mX4_take 10 = some (.ireturn) := by decide +kernel
theorem aX4_take_11 : mm_at mX4_take 11 = some (.aload_n 0) := by decide +kernel
theorem aX4_take_12 : mm_at mX4_take 12 = some (.getfield 47) := by decide +kernel
theorem aX4_take_15 : mm_at mX4_take 15 = some (.iload_n 1) := by decide +kernel
theorem aX4_take_16 : mm_at mX4_take 16 = some (.iaload) := by decide +kernel
theorem aX4_take_17 : mm_at mX4_take 17 = some (.iconst (-1)) := by decide +kernel
theorem aX4_take_18 : mm_at mX4_take 18 = some (.if_icmp .ne 7) := by decide +kernel
theorem aX4_take_21 : mm_at mX4_take 21 = some (.iconst 0) := by decide +kernel
theorem aX4_take_22 : mm_at mX4_take 22 = some (.goto 4) := by decide +kernel
theorem aX4_take_25 : mm_at mX4_take 25 = some (.iconst 1) := by decide +kernel
theorem aX4_take_26 : mm_at mX4_take 26 = some (.istore_n 2) := by decide +kernel
theorem aX4_take_27 : mm_at mX4_take 27 = some (.aload_n 0) := by decide +kernel
theorem aX4_take_28 : mm_at mX4_take 28 = some (.getfield 47) := by decide +kernel
theorem aX4_take_31 : mm_at mX4_take 31 = some (.iload_n 1) := by decide +kernel
theorem aX4_take_32 : mm_at mX4_take 32 = some (.iconst (-1)) := by decide +kernel
theorem aX4_take_33 : mm_at mX4_take 33 = some (.iastore) := by decide +kernel
theorem aX4_take_34 : mm_at mX4_take 34 = some (.iload_n 2) := by decide +kernel
theorem aX4_take_35 : mm_at mX4_take 35 = some (.ireturn) := by decide +kernel
theorem aX4_lend_0 : mm_at mX4_lend 0 = some (.aload_n 0) := by decide +kernel
theorem aX4_lend_1 : mm_at mX4_lend 1 = some (.iload_n 1) := by decide +kernel
theorem aX4_lend_2 : mm_at mX4_lend 2 = some (.invokevirtual 106) := by decide +kernel
theorem aX4_lend_5 : mm_at mX4_lend 5 = some (.ifCond .eq 11) := by decide +kernel
theorem aX4_lend_8 : mm_at mX4_lend 8 = some (.aload_n 0) := by decide +kernel
theorem aX4_lend_9 : mm_at mX4_lend 9 = some (.iload_n 2) := by decide +kernel
theorem aX4_lend_10 : mm_at mX4_lend 10 = some (.invokevirtual 106) := by decide +kernel
theorem aX4_lend_13 : mm_at mX4_lend 13 = some (.ifCond .ne 6) := by decide +kernel
theorem aX4_lend_16 : mm_at mX4_lend 16 = some (.bipush (-2)) := by decide +kernel
theorem aX4_lend_18 : mm_at mX4_lend 18 = some (.ireturn) := by decide +kernel
theorem aX4_lend_19 : mm_at mX4_lend 19 = some (.aload_n 0) := by decide +kernel
theorem aX4_lend_20 : mm_at mX4_lend 20 = some (.getfield 47) := by decide +kernel
theorem aX4_lend_23 : mm_at mX4_lend 23 = some (.iload_n 1) := by decide +kernel
theorem aX4_lend_24 : mm_at mX4_lend 24 = some (.aload_n 0) := by decide +kernel
theorem aX4_lend_25 : mm_at mX4_lend 25 = some (.getfield 47) := by decide +kernel
theorem aX4_lend_28 : mm_at mX4_lend 28 = some (.iload_n 2) := by decide +kernel
theorem aX4_lend_29 : mm_at mX4_lend 29 = some (.iaload) := by decide +kernel
theorem aX4_lend_30 : mm_at mX4_lend 30 = some (.iastore) := by decide +kernel
theorem aX4_lend_31 : mm_at mX4_lend 31 = some (.iconst 1) := by decide +kernel
theorem aX4_lend_32 : mm_at mX4_lend 32 = some (.ireturn) := by decide +kernel
theorem aX4_heap_0 : mm_at mX4_heap 0 = some (.aload_n 0) := by decide +kernel
theorem aX4_heap_1 : mm_at mX4_heap 1 = some (.getfield 56) := by decide +kernel
theorem aX4_heap_4 : mm_at mX4_heap 4 = some (.aload_n 0) := by decide +kernel
theorem aX4_heap_5 : mm_at mX4_heap 5 = some (.getfield 120) := by decide +kernel
theorem aX4_heap_8 : mm_at mX4_heap 8 = some (.iload_n 1) := by decide +kernel
theorem aX4_heap_9 : mm_at mX4_heap 9 = some (.iastore) := by decide +kernel
theorem aX4_heap_10 : mm_at mX4_heap 10 = some (.aload_n 0) := by decide +kernel
theorem aX4_heap_11 : mm_at mX4_heap 11 = some (.getfield 59) := by decide +kernel
theorem aX4_heap_14 : mm_at mX4_heap 14 = some (.aload_n 0) := by decide +kernel
theorem aX4_heap_15 : mm_at mX4_heap 15 = some (.getfield 120) := by decide +kernel
theorem aX4_heap_18 : mm_at mX4_heap 18 = some (.iload_n 2) := by decide +kernel
theorem aX4_heap_19 : mm_at mX4_heap 19 = some (.iastore) := by decide +kernel
theorem aX4_heap_20 : mm_at mX4_heap 20 = some (.aload_n 0) := by decide +kernel
theorem aX4_heap_21 : mm_at mX4_heap 21 = some (.getfield 62) := by decide +kernel
theorem aX4_heap_24 : mm_at mX4_heap 24 = some (.aload_n 0) := by decide +kernel
theorem aX4_heap_25 : mm_at mX4_heap 25 = some (.getfield 120) := by decide +kernel
theorem aX4_heap_28 : mm_at mX4_heap 28 = some (.lload_n 3) := by decide +kernel
theorem aX4_heap_29 : mm_at mX4_heap 29 = some (.lastore) := by decide +kernel
theorem aX4_heap_30 : mm_at mX4_heap 30 = some (.aload_n 0) := by decide +kernel
theorem aX4_heap_31 : mm_at mX4_heap 31 = some (.getfield 65) := by decide +kernel
theorem aX4_heap_34 : mm_at mX4_heap 34 = some (.aload_n 0) := by decide +kernel
theorem aX4_heap_35 : mm_at mX4_heap 35 = some (.getfield 120) := by decide +kernel
theorem aX4_heap_38 : mm_at mX4_heap 38 = some (.iconst 0) := by decide +kernel
theorem aX4_heap_39 : mm_at mX4_heap 39 = some (.iastore) := by decide +kernel
theorem aX4_heap_40 : mm_at mX4_heap 40 = some (.aload_n 0) := by decide +kernel
theorem aX4_heap_41 : mm_at mX4_heap 41 = some (.getfield 68) := by decide +kernel
theorem aX4_heap_44 : mm_at mX4_heap 44 = some (.aload_n 0) := by decide +kernel
theorem aX4_heap_45 : mm_at mX4_heap 45 = some (.getfield 120) := by decide +kernel
theorem aX4_heap_48 : mm_at mX4_heap 48 = some (.iconst 0) := by decide +kernel
theorem aX4_heap_49 : mm_at mX4_heap 49 = some (.iastore) := by decide +kernel
theorem aX4_heap_50 : mm_at mX4_heap 50 = some (.aload_n 0) := by decide +kernel
theorem aX4_heap_51 : mm_at mX4_heap 51 = some (.dup) := by decide +kernel
theorem aX4_heap_52 : mm_at mX4_heap 52 = some (.getfield 120) := by decide +kernel
theorem aX4_heap_55 : mm_at mX4_heap 55 = some (.iconst 1) := by decide +kernel
theorem aX4_heap_56 : mm_at mX4_heap 56 = some (.iadd) := by decide +kernel
theorem aX4_heap_57 : mm_at mX4_heap 57 = some (.putfield 120) := by decide +kernel
theorem aX4_heap_60 : mm_at mX4_heap 60 = some (.return_) := by decide +kernel
theorem aX4_rings_0 : mm_at mX4_rings 0 = some (.aload_n 0) := by decide +kernel
theorem aX4_rings_1 : mm_at mX4_rings 1 = some (.getfield 123) := by decide +kernel
theorem aX4_rings_4 : mm_at mX4_rings 4 = some (.bipush 8) := by decide +kernel
theorem aX4_rings_6 : mm_at mX4_rings 6 = some (.if_icmp .ne 9) := by decide +kernel
theorem aX4_rings_9 : mm_at mX4_rings 9 = some (.aload_n 0) := by decide +kernel
theorem aX4_rings_10 : mm_at mX4_rings 10 = some (.iconst 5) := by decide +kernel
theorem aX4_rings_11 : mm_at mX4_rings 11 = some (.putfield 126) := by decide +kernel
theorem aX4_rings_14 : mm_at mX4_rings 14 = some (.return_) := by decide +kernel
theorem aX4_rings_15 : mm_at mX4_rings 15 = some (.aload_n 0) := by decide +kernel
theorem aX4_rings_16 : mm_at mX4_rings 16 = some (.dup) := by decide +kernel
theorem aX4_rings_17 : mm_at mX4_rings 17 = some (.getfield 123) := by decide +kernel
theorem aX4_rings_20 : mm_at mX4_rings 20 = some (.iconst 1) := by decide +kernel
theorem aX4_rings_21 : mm_at mX4_rings 21 = some (.iadd) := by decide +kernel
theorem aX4_rings_22 : mm_at mX4_rings 22 = some (.putfield 123) := by decide +kernel
theorem aX4_rings_25 : mm_at mX4_rings 25 = some (.aload_n 0) := by decide +kernel
theorem aX4_rings_26 : mm_at mX4_rings 26 = some (.getfield 74) := by decide +kernel
theorem aX4_rings_29 : mm_at mX4_rings 29 = some (.iconst 2) := by decide +kernel
theorem aX4_rings_30 : mm_at mX4_rings 30 = some (.dup2) := by decide +kernel
theorem aX4_rings_31 : mm_at mX4_rings 31 = some (.iaload) := by decide +kernel
theorem aX4_rings_32 : mm_at mX4_rings 32 = some (.iconst 1) := by decide +kernel
theorem aX4_rings_33 : mm_at mX4_rings 33 = some (.iadd) := by decide +kernel
theorem aX4_rings_34 : mm_at mX4_rings 34 = some (.iastore) := by decide +kernel
theorem aX4_rings_35 : mm_at mX4_rings 35 = some (.aload_n 0) := by decide +kernel
theorem aX4_rings_36 : mm_at mX4_rings 36 = some (.iconst 0) := by decide +kernel
theorem aX4_rings_37 : mm_at mX4_rings 37 = some (.iload_n 1) := by decide +kernel
theorem aX4_rings_38 : mm_at mX4_rings 38 = some (.lload_n 2) := by decide +kernel
theorem aX4_rings_39 : mm_at mX4_rings 39 = some (.invokevirtual 129) := by decide +kernel
theorem aX4_rings_42 : mm_at mX4_rings 42 = some (.aload_n 0) := by decide +kernel
theorem aX4_rings_43 : mm_at mX4_rings 43 = some (.getfield 68) := by decide +kernel
theorem aX4_rings_46 : mm_at mX4_rings 46 = some (.aload_n 0) := by decide +kernel
theorem aX4_rings_47 : mm_at mX4_rings 47 = some (.getfield 120) := by decide +kernel
theorem aX4_rings_50 : mm_at mX4_rings 50 = some (.iconst 1) := by decide +kernel
theorem aX4_rings_51 : mm_at mX4_rings 51 = some (.isub) := by decide +kernel
theorem aX4_rings_52 : mm_at mX4_rings 52 = some (.aload_n 0) := by decide +kernel
theorem aX4_rings_53 : mm_at mX4_rings 53 = some (.getfield 20) := by decide +kernel
theorem aX4_rings_56 : mm_at mX4_rings 56 = some (.iload_n 1) := by decide +kernel
theorem aX4_rings_57 : mm_at mX4_rings 57 = some (.iaload) := by decide +kernel
theorem aX4_rings_58 : mm_at mX4_rings 58 = some (.iastore) := by decide +kernel
theorem aX4_rings_59 : mm_at mX4_rings 59 = some (.iconst 0) := by decide +kernel
theorem aX4_rings_60 : mm_at mX4_rings 60 = some (.istore 4) := by decide +kernel
theorem aX4_rings_62 : mm_at mX4_rings 62 = some (.iload 4) := by decide +kernel
theorem aX4_rings_64 : mm_at mX4_rings 64 = some (.aload_n 0) := by decide +kernel
theorem aX4_rings_65 : mm_at mX4_rings 65 = some (.getfield 20) := by decide +kernel
theorem aX4_rings_68 : mm_at mX4_rings 68 = some (.iload_n 1) := by decide +kernel
theorem aX4_rings_69 : mm_at mX4_rings 69 = some (.iaload) := by decide +kernel
theorem aX4_rings_70 : mm_at mX4_rings 70 = some (.if_icmp .ge 38) := by decide +kernel
theorem aX4_rings_73 : mm_at mX4_rings 73 = some (.aload_n 0) := by decide +kernel
theorem aX4_rings_74 : mm_at mX4_rings 74 = some (.getfield 71) := by decide +kernel
theorem aX4_rings_77 : mm_at mX4_rings 77 = some (.bipush 12) := by decide +kernel
theorem aX4_rings_79 : mm_at mX4_rings 79 = some (.aload_n 0) := by decide +kernel
theorem aX4_rings_80 : mm_at mX4_rings 80 = some (.getfield 120) := by decide +kernel
theorem aX4_rings_83 : mm_at mX4_rings 83 = some (.iconst 1) := by decide +kernel
theorem aX4_rings_84 : mm_at mX4_rings 84 = some (.isub) := by decide +kernel
theorem aX4_rings_85 : mm_at mX4_rings 85 = some (.imul) := by decide +kernel
theorem aX4_rings_86 : mm_at mX4_rings 86 = some (.iload 4) := by decide +kernel
theorem aX4_rings_88 : mm_at mX4_rings 88 = some (.iadd) := by decide +kernel
theorem aX4_rings_89 : mm_at mX4_rings 89 = some (.aload_n 0) := by decide +kernel
theorem aX4_rings_90 : mm_at mX4_rings 90 = some (.getfield 17) := by decide +kernel
theorem aX4_rings_93 : mm_at mX4_rings 93 = some (.bipush 12) := by decide +kernel
theorem aX4_rings_95 : mm_at mX4_rings 95 = some (.iload_n 1) := by decide +kernel
theorem aX4_rings_96 : mm_at mX4_rings 96 = some (.imul) := by decide +kernel
theorem aX4_rings_97 : mm_at mX4_rings 97 = some (.iload 4) := by decide +kernel
theorem aX4_rings_99 : mm_at mX4_rings 99 = some (.iadd) := by decide +kernel
theorem aX4_rings_100 : mm_at mX4_rings 100 = some (.iaload) := by decide +kernel
theorem aX4_rings_101 : mm_at mX4_rings 101 = some (.iastore) := by decide +kernel
theorem aX4_rings_102 : mm_at mX4_rings 102 = some (.iinc 4 1) := by decide +kernel
theorem aX4_rings_105 : mm_at mX4_rings 105 = some (.goto (-43)) := by decide +kernel
theorem aX4_rings_108 : mm_at mX4_rings 108 = some (.return_) := by decide +kernel
theorem aX4_begins_0 : mm_at mX4_begins 0 = some (.iload_n 1) := by decide +kernel
theorem aX4_begins_1 : mm_at mX4_begins 1 = some (.iconst (-1)) := by decide +kernel
theorem aX4_begins_2 : mm_at mX4_begins 2 = some (.if_icmp .ne 9) := by decide +kernel
theorem aX4_begins_5 : mm_at mX4_begins 5 = some (.aload_n 0) := by decide +kernel
theorem aX4_begins_6 : mm_at mX4_begins 6 = some (.iconst 3) := by decide +kernel
theorem aX4_begins_7 : mm_at mX4_begins 7 = some (.putfield 126) := by decide +kernel
theorem aX4_begins_10 : mm_at mX4_begins 10 = some (.return_) := by decide +kernel
theorem aX4_begins_11 : mm_at mX4_begins 11 = some (.aload_n 0) := by decide +kernel
theorem aX4_begins_12 : mm_at mX4_begins 12 = some (.iload_n 1) := by decide +kernel
theorem aX4_begins_13 : mm_at mX4_begins 13 = some (.putfield 133) := by decide +kernel
theorem aX4_begins_16 : mm_at mX4_begins 16 = some (.aload_n 0) := by decide +kernel
theorem aX4_begins_17 : mm_at mX4_begins 17 = some (.lload_n 2) := by decide +kernel
theorem aX4_begins_18 : mm_at mX4_begins 18 = some (.putfield 136) := by decide +kernel
theorem aX4_begins_21 : mm_at mX4_begins 21 = some (.return_) := by decide +kernel
theorem aX4_does_0 : mm_at mX4_does 0 = some (.aload_n 0) := by decide +kernel
theorem aX4_does_1 : mm_at mX4_does 1 = some (.getfield 133) := by decide +kernel
theorem aX4_does_4 : mm_at mX4_does 4 = some (.istore_n 1) := by decide +kernel
theorem aX4_does_5 : mm_at mX4_does 5 = some (.aload_n 0) := by decide +kernel
theorem aX4_does_6 : mm_at mX4_does 6 = some (.getfield 136) := by decide +kernel
theorem aX4_does_9 : mm_at mX4_does 9 = some (.lstore_n 2) := by decide +kernel
theorem aX4_does_10 : mm_at mX4_does 10 = some (.aload_n 0) := by decide +kernel
theorem aX4_does_11 : mm_at mX4_does 11 = some (.iconst (-1)) := by decide +kernel
theorem aX4_does_12 : mm_at mX4_does 12 = some (.putfield 133) := by decide +kernel
theorem aX4_does_15 : mm_at mX4_does 15 = some (.aload_n 0) := by decide +kernel
theorem aX4_does_16 : mm_at mX4_does 16 = some (.getfield 140) := by decide +kernel
theorem aX4_does_19 : mm_at mX4_does 19 = some (.sipush 200) := by decide +kernel
theorem aX4_does_22 : mm_at mX4_does 22 = some (.if_icmp .ne 10) := by decide +kernel
theorem aX4_does_25 : mm_at mX4_does 25 = some (.aload_n 0) := by decide +kernel
theorem aX4_does_26 : mm_at mX4_does 26 = some (.bipush 6) := by decide +kernel
theorem aX4_does_28 : mm_at mX4_does 28 = some (.putfield 126) := by decide +kernel
theorem aX4_does_31 : mm_at mX4_does 31 = some (.return_) := by decide +kernel
theorem aX4_does_32 : mm_at mX4_does 32 = some (.aload_n 0) := by decide +kernel
theorem aX4_does_33 : mm_at mX4_does 33 = some (.dup) := by decide +kernel
theorem aX4_does_34 : mm_at mX4_does 34 = some (.getfield 140) := by decide +kernel
theorem aX4_does_37 : mm_at mX4_does 37 = some (.iconst 1) := by decide +kernel
theorem aX4_does_38 : mm_at mX4_does 38 = some (.iadd) := by decide +kernel
theorem aX4_does_39 : mm_at mX4_does 39 = some (.putfield 140) := by decide +kernel
theorem aX4_does_42 : mm_at mX4_does 42 = some (.aload_n 0) := by decide +kernel
theorem aX4_does_43 : mm_at mX4_does 43 = some (.getfield 74) := by decide +kernel
theorem aX4_does_46 : mm_at mX4_does 46 = some (.iconst 1) := by decide +kernel
theorem aX4_does_47 : mm_at mX4_does 47 = some (.dup2) := by decide +kernel
theorem aX4_does_48 : mm_at mX4_does 48 = some (.iaload) := by decide +kernel
theorem aX4_does_49 : mm_at mX4_does 49 = some (.iconst 1) := by decide +kernel
theorem aX4_does_50 : mm_at mX4_does 50 = some (.iadd) := by decide +kernel
theorem aX4_does_51 : mm_at mX4_does 51 = some (.iastore) := by decide +kernel
theorem aX4_does_52 : mm_at mX4_does 52 = some (.aload_n 0) := by decide +kernel
theorem aX4_does_53 : mm_at mX4_does 53 = some (.getfield 44) := by decide +kernel
theorem aX4_does_56 : mm_at mX4_does 56 = some (.iload_n 1) := by decide +kernel
theorem aX4_does_57 : mm_at mX4_does 57 = some (.dup2) := by decide +kernel
theorem aX4_does_58 : mm_at mX4_does 58 = some (.iaload) := by decide +kernel
theorem aX4_does_59 : mm_at mX4_does 59 = some (.iconst 1) := by decide +kernel
theorem aX4_does_60 : mm_at mX4_does 60 = some (.iadd) := by decide +kernel
theorem aX4_does_61 : mm_at mX4_does 61 = some (.iastore) := by decide +kernel
theorem aX4_does_62 : mm_at mX4_does 62 = some (.aload_n 0) := by decide +kernel
theorem aX4_does_63 : mm_at mX4_does 63 = some (.getfield 26) := by decide +kernel
theorem aX4_does_66 : mm_at mX4_does 66 = some (.iload_n 1) := by decide +kernel
theorem aX4_does_67 : mm_at mX4_does 67 = some (.iaload) := by decide +kernel
theorem aX4_does_68 : mm_at mX4_does 68 = some (.istore 4) := by decide +kernel
theorem aX4_does_70 : mm_at mX4_does 70 = some (.aload_n 0) := by decide +kernel
theorem aX4_does_71 : mm_at mX4_does 71 = some (.getfield 29) := by decide +kernel
theorem aX4_does_74 : mm_at mX4_does 74 = some (.iload_n 1) := by decide +kernel
theorem aX4_does_75 : mm_at mX4_does 75 = some (.iaload) := by decide +kernel
theorem aX4_does_76 : mm_at mX4_does 76 = some (.istore 5) := by decide +kernel
theorem aX4_does_78 : mm_at mX4_does 78 = some (.aload_n 0) := by decide +kernel
theorem aX4_does_79 : mm_at mX4_does 79 = some (.getfield 23) := by decide +kernel
theorem aX4_does_82 : mm_at mX4_does 82 = some (.iload_n 1) := by decide +kernel
theorem aX4_does_83 : mm_at mX4_does 83 = some (.iaload) := by decide +kernel
theorem aX4_does_84 : mm_at mX4_does 84 = some (.tableswitch 275 0 7 #[48, 66, 99, 119, 152, 187, 201, 256]) := by decide +kernel
theorem aX4_does_132 : mm_at mX4_does 132 = some (.aload_n 0) := by decide +kernel
theorem aX4_does_133 : mm_at mX4_does 133 = some (.getfield 7) := by decide +kernel
theorem aX4_does_136 : mm_at mX4_does 136 = some (.iload 4) := by decide +kernel
theorem aX4_does_138 : mm_at mX4_does 138 = some (.dup2) := by decide +kernel
theorem aX4_does_139 : mm_at mX4_does 139 = some (.laload) := by decide +kernel
theorem aX4_does_140 : mm_at mX4_does 140 = some (.lload_n 2) := by decide +kernel
theorem aX4_does_141 : mm_at mX4_does 141 = some (.iload 5) := by decide +kernel
theorem aX4_does_143 : mm_at mX4_does 143 = some (.i2l) := by decide +kernel
theorem aX4_does_144 : mm_at mX4_does 144 = some (.ladd) := by decide +kernel
theorem aX4_does_145 : mm_at mX4_does 145 = some (.ladd) := by decide +kernel
theorem aX4_does_146 : mm_at mX4_does 146 = some (.lastore) := by decide +kernel
theorem aX4_does_147 : mm_at mX4_does 147 = some (.goto 218) := by decide +kernel
theorem aX4_does_150 : mm_at mX4_does 150 = some (.aload_n 0) := by decide +kernel
theorem aX4_does_151 : mm_at mX4_does 151 = some (.getfield 7) := by decide +kernel
theorem aX4_does_154 : mm_at mX4_does 154 = some (.iload 4) := by decide +kernel
theorem aX4_does_156 : mm_at mX4_does 156 = some (.lload_n 2) := by decide +kernel
theorem aX4_does_157 : mm_at mX4_does 157 = some (.aload_n 0) := by decide +kernel
theorem aX4_does_158 : mm_at mX4_does 158 = some (.getfield 7) := by decide +kernel
theorem aX4_does_161 : mm_at mX4_does 161 = some (.iload 4) := by decide +kernel
theorem aX4_does_163 : mm_at mX4_does 163 = some (.laload) := by decide +kernel
theorem aX4_does_164 : mm_at mX4_does 164 = some (.lcmp) := by decide +kernel
theorem aX4_does_165 : mm_at mX4_does 165 = some (.ifCond .le 7) := by decide +kernel
theorem aX4_does_168 : mm_at mX4_does 168 = some (.lload_n 2) := by decide +kernel
theorem aX4_does_169 : mm_at mX4_does 169 = some (.goto 10) := by decide +kernel
theorem aX4_does_172 : mm_at mX4_does 172 = some (.aload_n 0) := by decide +kernel
theorem aX4_does_173 : mm_at mX4_does 173 = some (.getfield 7) := by decide +kernel
theorem aX4_does_176 : mm_at mX4_does 176 = some (.iload 4) := by decide +kernel
theorem aX4_does_178 : mm_at mX4_does 178 = some (.laload) := by decide +kernel
theorem aX4_does_179 : mm_at mX4_does 179 = some (.lastore) := by decide +kernel
theorem aX4_does_180 : mm_at mX4_does 180 = some (.goto 185) := by decide +kernel
theorem aX4_does_183 : mm_at mX4_does 183 = some (.aload_n 0) := by decide +kernel
theorem aX4_does_184 : mm_at mX4_does 184 = some (.getfield 7) := by decide +kernel
theorem aX4_does_187 : mm_at mX4_does 187 = some (.iload 4) := by decide +kernel
theorem aX4_does_189 : mm_at mX4_does 189 = some (.aload_n 0) := by decide +kernel
theorem aX4_does_190 : mm_at mX4_does 190 = some (.getfield 32) := by decide +kernel
theorem aX4_does_193 : mm_at mX4_does 193 = some (.iload_n 1) := by decide +kernel
theorem aX4_does_194 : mm_at mX4_does 194 = some (.laload) := by decide +kernel
theorem aX4_does_195 : mm_at mX4_does 195 = some (.iload 5) := by decide +kernel
theorem aX4_does_197 : mm_at mX4_does 197 = some (.i2l) := by decide +kernel
theorem aX4_does_198 : mm_at mX4_does 198 = some (.ladd) := by decide +kernel
theorem aX4_does_199 : mm_at mX4_does 199 = some (.lastore) := by decide +kernel
theorem aX4_does_200 : mm_at mX4_does 200 = some (.goto 165) := by decide +kernel
theorem aX4_does_203 : mm_at mX4_does 203 = some (.lload_n 2) := by decide +kernel
theorem aX4_does_204 : mm_at mX4_does 204 = some (.lconst 0) := by decide +kernel
theorem aX4_does_205 : mm_at mX4_does 205 = some (.lcmp) := by decide +kernel
theorem aX4_does_206 : mm_at mX4_does 206 = some (.ifCond .ne 11) := by decide +kernel
theorem aX4_does_209 : mm_at mX4_does 209 = some (.aload_n 0) := by decide +kernel
theorem aX4_does_210 : mm_at mX4_does 210 = some (.iconst 1) := by decide +kernel
theorem aX4_does_211 : mm_at mX4_does 211 = some (.putfield 126) := by decide +kernel
theorem aX4_does_214 : mm_at mX4_does 214 = some (.goto 151) := by decide +kernel
theorem aX4_does_217 : mm_at mX4_does 217 = some (.aload_n 0) := by decide +kernel
theorem aX4_does_218 : mm_at mX4_does 218 = some (.getfield 7) := by decide +kernel
theorem aX4_does_221 : mm_at mX4_does 221 = some (.iload 4) := by decide +kernel
theorem aX4_does_223 : mm_at mX4_does 223 = some (.aload_n 0) := by decide +kernel
theorem aX4_does_224 : mm_at mX4_does 224 = some (.getfield 7) := by decide +kernel
theorem aX4_does_227 : mm_at mX4_does 227 = some (.iload 4) := by decide +kernel
theorem aX4_does_229 : mm_at mX4_does 229 = some (.laload) := by decide +kernel
theorem aX4_does_230 : mm_at mX4_does 230 = some (.lload_n 2) := by decide +kernel
theorem aX4_does_231 : mm_at mX4_does 231 = some (.ldiv) := by decide +kernel
theorem aX4_does_232 : mm_at mX4_does 232 = some (.lastore) := by decide +kernel
theorem aX4_does_233 : mm_at mX4_does 233 = some (.goto 132) := by decide +kernel
theorem aX4_does_236 : mm_at mX4_does 236 = some (.lload_n 2) := by decide +kernel
theorem aX4_does_237 : mm_at mX4_does 237 = some (.lconst 0) := by decide +kernel
theorem aX4_does_238 : mm_at mX4_does 238 = some (.ldc2_w 91) := by decide +kernel
theorem aX4_does_241 : mm_at mX4_does 241 = some (.invokestatic 85) := by decide +kernel
theorem aX4_does_244 : mm_at mX4_does 244 = some (.ifCond .eq 19) := by decide +kernel
theorem aX4_does_247 : mm_at mX4_does 247 = some (.aload_n 0) := by decide +kernel
theorem aX4_does_248 : mm_at mX4_does 248 = some (.getfield 7) := by decide +kernel
theorem aX4_does_251 : mm_at mX4_does 251 = some (.lload_n 2) := by decide +kernel
theorem aX4_does_252 : mm_at mX4_does 252 = some (.l2i) := by decide +kernel
theorem aX4_does_253 : mm_at mX4_does 253 = some (.dup2) := by decide +kernel
theorem aX4_does_254 : mm_at mX4_does 254 = some (.laload) := by decide +kernel
theorem aX4_does_255 : mm_at mX4_does 255 = some (.iload 5) := by decide +kernel
theorem aX4_does_257 : mm_at mX4_does 257 = some (.i2l) := by decide +kernel
theorem aX4_does_258 : mm_at mX4_does 258 = some (.ladd) := by decide +kernel
theorem aX4_does_259 : mm_at mX4_does 259 = some (.lastore) := by decide +kernel
theorem aX4_does_260 : mm_at mX4_does 260 = some (.goto 105) := by decide +kernel
theorem aX4_does_263 : mm_at mX4_does 263 = some (.aload_n 0) := by decide +kernel
theorem aX4_does_264 : mm_at mX4_does 264 = some (.iconst 2) := by decide +kernel
theorem aX4_does_265 : mm_at mX4_does 265 = some (.putfield 126) := by decide +kernel
theorem aX4_does_268 : mm_at mX4_does 268 = some (.goto 97) := by decide +kernel
theorem aX4_does_271 : mm_at mX4_does 271 = some (.aload_n 0) := by decide +kernel
theorem aX4_does_272 : mm_at mX4_does 272 = some (.iload 4) := by decide +kernel
theorem aX4_does_274 : mm_at mX4_does 274 = some (.lload_n 2) := by decide +kernel
theorem aX4_does_275 : mm_at mX4_does 275 = some (.iload 5) := by decide +kernel
theorem aX4_does_277 : mm_at mX4_does 277 = some (.i2l) := by decide +kernel
theorem aX4_does_278 : mm_at mX4_does 278 = some (.ladd) := by decide +kernel
theorem aX4_does_279 : mm_at mX4_does 279 = some (.invokevirtual 143) := by decide +kernel
theorem aX4_does_282 : mm_at mX4_does 282 = some (.goto 83) := by decide +kernel
theorem aX4_does_285 : mm_at mX4_does 285 = some (.aload_n 0) := by decide +kernel
theorem aX4_does_286 : mm_at mX4_does 286 = some (.getfield 147) := by decide +kernel
theorem aX4_does_289 : mm_at mX4_does 289 = some (.bipush 20) := by decide +kernel
theorem aX4_does_291 : mm_at mX4_does 291 = some (.if_icmp .ne 11) := by decide +kernel
theorem aX4_does_294 : mm_at mX4_does 294 = some (.aload_n 0) := by decide +kernel
theorem aX4_does_295 : mm_at mX4_does 295 = some (.iconst 4) := by decide +kernel
theorem aX4_does_296 : mm_at mX4_does 296 = some (.putfield 126) := by decide +kernel
theorem aX4_does_299 : mm_at mX4_does 299 = some (.goto 66) := by decide +kernel
theorem aX4_does_302 : mm_at mX4_does 302 = some (.aload_n 0) := by decide +kernel
theorem aX4_does_303 : mm_at mX4_does 303 = some (.getfield 50) := by decide +kernel
theorem aX4_does_306 : mm_at mX4_does 306 = some (.aload_n 0) := by decide +kernel
theorem aX4_does_307 : mm_at mX4_does 307 = some (.getfield 147) := by decide +kernel
theorem aX4_does_310 : mm_at mX4_does 310 = some (.iload 4) := by decide +kernel
theorem aX4_does_312 : mm_at mX4_does 312 = some (.iastore) := by decide +kernel
theorem aX4_does_313 : mm_at mX4_does 313 = some (.aload_n 0) := by decide +kernel
theorem aX4_does_314 : mm_at mX4_does 314 = some (.getfield 53) := by decide +kernel
theorem aX4_does_317 : mm_at mX4_does 317 = some (.aload_n 0) := by decide +kernel
theorem aX4_does_318 : mm_at mX4_does 318 = some (.getfield 147) := by decide +kernel
theorem aX4_does_321 : mm_at mX4_does 321 = some (.lload_n 2) := by decide +kernel
theorem aX4_does_322 : mm_at mX4_does 322 = some (.iload 5) := by decide +kernel
theorem aX4_does_324 : mm_at mX4_does 324 = some (.i2l) := by decide +kernel
theorem aX4_does_325 : mm_at mX4_does 325 = some (.ladd) := by decide +kernel
theorem aX4_does_326 : mm_at mX4_does 326 = some (.lastore) := by decide +kernel
theorem aX4_does_327 : mm_at mX4_does 327 = some (.aload_n 0) := by decide +kernel
theorem aX4_does_328 : mm_at mX4_does 328 = some (.dup) := by decide +kernel
theorem aX4_does_329 : mm_at mX4_does 329 = some (.getfield 147) := by decide +kernel
theorem aX4_does_332 : mm_at mX4_does 332 = some (.iconst 1) := by decide +kernel
theorem aX4_does_333 : mm_at mX4_does 333 = some (.iadd) := by decide +kernel
theorem aX4_does_334 : mm_at mX4_does 334 = some (.putfield 147) := by decide +kernel
theorem aX4_does_337 : mm_at mX4_does 337 = some (.goto 28) := by decide +kernel
theorem aX4_does_340 : mm_at mX4_does 340 = some (.aload_n 0) := by decide +kernel
theorem aX4_does_341 : mm_at mX4_does 341 = some (.getfield 74) := by decide +kernel
theorem aX4_does_344 : mm_at mX4_does 344 = some (.bipush 6) := by decide +kernel
theorem aX4_does_346 : mm_at mX4_does 346 = some (.dup2) := by decide +kernel
theorem aX4_does_347 : mm_at mX4_does 347 = some (.iaload) := by decide +kernel
theorem aX4_does_348 : mm_at mX4_does 348 = some (.iconst 1) := by decide +kernel
theorem aX4_does_349 : mm_at mX4_does 349 = some (.iadd) := by decide +kernel
theorem aX4_does_350 : mm_at mX4_does 350 = some (.iastore) := by decide +kernel
theorem aX4_does_351 : mm_at mX4_does 351 = some (.aload_n 0) := by decide +kernel
theorem aX4_does_352 : mm_at mX4_does 352 = some (.iconst 1) := by decide +kernel
theorem aX4_does_353 : mm_at mX4_does 353 = some (.putfield 150) := by decide +kernel
theorem aX4_does_356 : mm_at mX4_does 356 = some (.goto 9) := by decide +kernel
theorem aX4_does_359 : mm_at mX4_does 359 = some (.aload_n 0) := by decide +kernel
theorem aX4_does_360 : mm_at mX4_does 360 = some (.iload_n 1) := by decide +kernel
theorem aX4_does_361 : mm_at mX4_does 361 = some (.lload_n 2) := by decide +kernel
theorem aX4_does_362 : mm_at mX4_does 362 = some (.invokevirtual 154) := by decide +kernel
theorem aX4_does_365 : mm_at mX4_does 365 = some (.return_) := by decide +kernel
theorem aX4_doesOthers_0 : mm_at mX4_doesOthers 0 = some (.aload_n 0) := by decide +kernel
theorem aX4_doesOthers_1 : mm_at mX4_doesOthers 1 = some (.getfield 26) := by decide +kernel
theorem aX4_doesOthers_4 : mm_at mX4_doesOthers 4 = some (.iload_n 1) := by decide +kernel
theorem aX4_doesOthers_5 : mm_at mX4_doesOthers 5 = some (.iaload) := by decide +kernel
theorem aX4_doesOthers_6 : mm_at mX4_doesOthers 6 = some (.istore 4) := by decide +kernel
theorem aX4_doesOthers_8 : mm_at mX4_doesOthers 8 = some (.aload_n 0) := by decide +kernel
theorem aX4_doesOthers_9 : mm_at mX4_doesOthers 9 = some (.getfield 29) := by decide +kernel
theorem aX4_doesOthers_12 : mm_at mX4_doesOthers 12 = some (.iload_n 1) := by decide +kernel
theorem aX4_doesOthers_13 : mm_at mX4_doesOthers 13 = some (.iaload) := by decide +kernel
theorem aX4_doesOthers_14 : mm_at mX4_doesOthers 14 = some (.istore 5) := by decide +kernel
theorem aX4_doesOthers_16 : mm_at mX4_doesOthers 16 = some (.aload_n 0) := by decide +kernel
theorem aX4_doesOthers_17 : mm_at mX4_doesOthers 17 = some (.getfield 23) := by decide +kernel
theorem aX4_doesOthers_20 : mm_at mX4_doesOthers 20 = some (.iload_n 1) := by decide +kernel
theorem aX4_doesOthers_21 : mm_at mX4_doesOthers 21 = some (.iaload) := by decide +kernel
theorem aX4_doesOthers_22 : mm_at mX4_doesOthers 22 = some (.tableswitch 218 8 13 #[38, 73, 115, 141, 167, 189]) := by decide +kernel
theorem aX4_doesOthers_60 : mm_at mX4_doesOthers 60 = some (.aload_n 0) := by decide +kernel
theorem aX4_doesOthers_61 : mm_at mX4_doesOthers 61 = some (.getfield 41) := by decide +kernel
theorem aX4_doesOthers_64 : mm_at mX4_doesOthers 64 = some (.iload_n 1) := by decide +kernel
theorem aX4_doesOthers_65 : mm_at mX4_doesOthers 65 = some (.iaload) := by decide +kernel
theorem aX4_doesOthers_66 : mm_at mX4_doesOthers 66 = some (.iload 5) := by decide +kernel
theorem aX4_doesOthers_68 : mm_at mX4_doesOthers 68 = some (.if_icmp .ge 212) := by decide +kernel
theorem aX4_doesOthers_71 : mm_at mX4_doesOthers 71 = some (.aload_n 0) := by decide +kernel
theorem aX4_doesOthers_72 : mm_at mX4_doesOthers 72 = some (.getfield 41) := by decide +kernel
theorem aX4_doesOthers_75 : mm_at mX4_doesOthers 75 = some (.iload_n 1) := by decide +kernel
theorem aX4_doesOthers_76 : mm_at mX4_doesOthers 76 = some (.dup2) := by decide +kernel
theorem aX4_doesOthers_77 : mm_at mX4_doesOthers 77 = some (.iaload) := by decide +kernel
theorem aX4_doesOthers_78 : mm_at mX4_doesOthers 78 = some (.iconst 1) := by decide +kernel
theorem aX4_doesOthers_79 : mm_at mX4_doesOthers 79 = some (.iadd) := by decide +kernel
theorem aX4_doesOthers_80 : mm_at mX4_doesOthers 80 = some (.iastore) := by decide +kernel
theorem aX4_doesOthers_81 : mm_at mX4_doesOthers 81 = some (.aload_n 0) := by decide +kernel
theorem aX4_doesOthers_82 : mm_at mX4_doesOthers 82 = some (.aload_n 0) := by decide +kernel
theorem aX4_doesOthers_83 : mm_at mX4_doesOthers 83 = some (.getfield 35) := by decide +kernel
theorem aX4_doesOthers_86 : mm_at mX4_doesOthers 86 = some (.iload_n 1) := by decide +kernel
theorem aX4_doesOthers_87 : mm_at mX4_doesOthers 87 = some (.iaload) := by decide +kernel
theorem aX4_doesOthers_88 : mm_at mX4_doesOthers 88 = some (.lload_n 2) := by decide +kernel
theorem aX4_doesOthers_89 : mm_at mX4_doesOthers 89 = some (.invokevirtual 157) := by decide +kernel
theorem aX4_doesOthers_92 : mm_at mX4_doesOthers 92 = some (.goto 188) := by decide +kernel
theorem aX4_doesOthers_95 : mm_at mX4_doesOthers 95 = some (.aload_n 0) := by decide +kernel
theorem aX4_doesOthers_96 : mm_at mX4_doesOthers 96 = some (.getfield 41) := by decide +kernel
theorem aX4_doesOthers_99 : mm_at mX4_doesOthers 99 = some (.iload_n 1) := by decide +kernel
theorem aX4_doesOthers_100 : mm_at mX4_doesOthers 100 = some (.dup2) := by decide +kernel
theorem aX4_doesOthers_101 : mm_at mX4_doesOthers 101 = some (.iaload) := by decide +kernel
theorem aX4_doesOthers_102 : mm_at mX4_doesOthers 102 = some (.iconst 1) := by decide +kernel
theorem aX4_doesOthers_103 : mm_at mX4_doesOthers 103 = some (.iadd) := by decide +kernel
theorem aX4_doesOthers_104 : mm_at mX4_doesOthers 104 = some (.iastore) := by decide +kernel
theorem aX4_doesOthers_105 : mm_at mX4_doesOthers 105 = some (.aload_n 0) := by decide +kernel
theorem aX4_doesOthers_106 : mm_at mX4_doesOthers 106 = some (.getfield 41) := by decide +kernel
theorem aX4_doesOthers_109 : mm_at mX4_doesOthers 109 = some (.iload_n 1) := by decide +kernel
theorem aX4_doesOthers_110 : mm_at mX4_doesOthers 110 = some (.iaload) := by decide +kernel
theorem aX4_doesOthers_111 : mm_at mX4_doesOthers 111 = some (.iload 5) := by decide +kernel
theorem aX4_doesOthers_113 : mm_at mX4_doesOthers 113 = some (.if_icmp .lt 167) := by decide +kernel
theorem aX4_doesOthers_116 : mm_at mX4_doesOthers 116 = some (.aload_n 0) := by decide +kernel
theorem aX4_doesOthers_117 : mm_at mX4_doesOthers 117 = some (.getfield 41) := by decide +kernel
theorem aX4_doesOthers_120 : mm_at mX4_doesOthers 120 = some (.iload_n 1) := by decide +kernel
theorem aX4_doesOthers_121 : mm_at mX4_doesOthers 121 = some (.iconst 0) := by decide +kernel
theorem aX4_doesOthers_122 : mm_at mX4_doesOthers 122 = some (.iastore) := by decide +kernel
theorem aX4_doesOthers_123 : mm_at mX4_doesOthers 123 = some (.aload_n 0) := by decide +kernel
theorem aX4_doesOthers_124 : mm_at mX4_doesOthers 124 = some (.aload_n 0) := by decide +kernel
theorem aX4_doesOthers_125 : mm_at mX4_doesOthers 125 = some (.getfield 35) := by decide +kernel
theorem aX4_doesOthers_128 : mm_at mX4_doesOthers 128 = some (.iload_n 1) := by decide +kernel
theorem aX4_doesOthers_129 : mm_at mX4_doesOthers 129 = some (.iaload) := by decide +kernel
theorem aX4_doesOthers_130 : mm_at mX4_doesOthers 130 = some (.lload_n 2) := by decide +kernel
theorem aX4_doesOthers_131 : mm_at mX4_doesOthers 131 = some (.invokevirtual 157) := by decide +kernel
theorem aX4_doesOthers_134 : mm_at mX4_doesOthers 134 = some (.goto 146) := by decide +kernel
theorem aX4_doesOthers_137 : mm_at mX4_doesOthers 137 = some (.aload_n 0) := by decide +kernel
theorem aX4_doesOthers_138 : mm_at mX4_doesOthers 138 = some (.getfield 7) := by decide +kernel
theorem aX4_doesOthers_141 : mm_at mX4_doesOthers 141 = some (.iload 5) := by decide +kernel
theorem aX4_doesOthers_143 : mm_at mX4_doesOthers 143 = some (.laload) := by decide +kernel
theorem aX4_doesOthers_144 : mm_at mX4_doesOthers 144 = some (.lconst 0) := by decide +kernel
theorem aX4_doesOthers_145 : mm_at mX4_doesOthers 145 = some (.lcmp) := by decide +kernel
theorem aX4_doesOthers_146 : mm_at mX4_doesOthers 146 = some (.ifCond .le 134) := by decide +kernel
theorem aX4_doesOthers_149 : mm_at mX4_doesOthers 149 = some (.aload_n 0) := by decide +kernel
theorem aX4_doesOthers_150 : mm_at mX4_doesOthers 150 = some (.aload_n 0) := by decide +kernel
theorem aX4_doesOthers_151 : mm_at mX4_doesOthers 151 = some (.getfield 35) := by decide +kernel
theorem aX4_doesOthers_154 : mm_at mX4_doesOthers 154 = some (.iload_n 1) := by decide +kernel
theorem aX4_doesOthers_155 : mm_at mX4_doesOthers 155 = some (.iaload) := by decide +kernel
theorem aX4_doesOthers_156 : mm_at mX4_doesOthers 156 = some (.lload_n 2) := by decide +kernel
theorem aX4_doesOthers_157 : mm_at mX4_doesOthers 157 = some (.invokevirtual 157) := by decide +kernel
theorem aX4_doesOthers_160 : mm_at mX4_doesOthers 160 = some (.goto 120) := by decide +kernel
theorem aX4_doesOthers_163 : mm_at mX4_doesOthers 163 = some (.aload_n 0) := by decide +kernel
theorem aX4_doesOthers_164 : mm_at mX4_doesOthers 164 = some (.iconst 2) := by decide +kernel
theorem aX4_doesOthers_165 : mm_at mX4_doesOthers 165 = some (.aload_n 0) := by decide +kernel
theorem aX4_doesOthers_166 : mm_at mX4_doesOthers 166 = some (.getfield 38) := by decide +kernel
theorem aX4_doesOthers_169 : mm_at mX4_doesOthers 169 = some (.iload_n 1) := by decide +kernel
theorem aX4_doesOthers_170 : mm_at mX4_doesOthers 170 = some (.iaload) := by decide +kernel
theorem aX4_doesOthers_171 : mm_at mX4_doesOthers 171 = some (.lload_n 2) := by decide +kernel
theorem aX4_doesOthers_172 : mm_at mX4_doesOthers 172 = some (.invokevirtual 129) := by decide +kernel
theorem aX4_doesOthers_175 : mm_at mX4_doesOthers 175 = some (.aload_n 0) := by decide +kernel
theorem aX4_doesOthers_176 : mm_at mX4_doesOthers 176 = some (.aload_n 0) := by decide +kernel
theorem aX4_doesOthers_177 : mm_at mX4_doesOthers 177 = some (.getfield 35) := by decide +kernel
theorem aX4_doesOthers_180 : mm_at mX4_doesOthers 180 = some (.iload_n 1) := by decide +kernel
theorem aX4_doesOthers_181 : mm_at mX4_doesOthers 181 = some (.iaload) := by decide +kernel
theorem aX4_doesOthers_182 : mm_at mX4_doesOthers 182 = some (.lload_n 2) := by decide +kernel
theorem aX4_doesOthers_183 : mm_at mX4_doesOthers 183 = some (.invokevirtual 157) := by decide +kernel
theorem aX4_doesOthers_186 : mm_at mX4_doesOthers 186 = some (.goto 94) := by decide +kernel
theorem aX4_doesOthers_189 : mm_at mX4_doesOthers 189 = some (.aload_n 0) := by decide +kernel
theorem aX4_doesOthers_190 : mm_at mX4_doesOthers 190 = some (.iconst 1) := by decide +kernel
theorem aX4_doesOthers_191 : mm_at mX4_doesOthers 191 = some (.iload 5) := by decide +kernel
theorem aX4_doesOthers_193 : mm_at mX4_doesOthers 193 = some (.lload_n 2) := by decide +kernel
theorem aX4_doesOthers_194 : mm_at mX4_doesOthers 194 = some (.invokevirtual 129) := by decide +kernel
theorem aX4_doesOthers_197 : mm_at mX4_doesOthers 197 = some (.aload_n 0) := by decide +kernel
theorem aX4_doesOthers_198 : mm_at mX4_doesOthers 198 = some (.aload_n 0) := by decide +kernel
theorem aX4_doesOthers_199 : mm_at mX4_doesOthers 199 = some (.getfield 35) := by decide +kernel
theorem aX4_doesOthers_202 : mm_at mX4_doesOthers 202 = some (.iload_n 1) := by decide +kernel
theorem aX4_doesOthers_203 : mm_at mX4_doesOthers 203 = some (.iaload) := by decide +kernel
theorem aX4_doesOthers_204 : mm_at mX4_doesOthers 204 = some (.lload_n 2) := by decide +kernel
theorem aX4_doesOthers_205 : mm_at mX4_doesOthers 205 = some (.invokevirtual 157) := by decide +kernel
theorem aX4_doesOthers_208 : mm_at mX4_doesOthers 208 = some (.goto 72) := by decide +kernel
theorem aX4_doesOthers_211 : mm_at mX4_doesOthers 211 = some (.iconst 0) := by decide +kernel
theorem aX4_doesOthers_212 : mm_at mX4_doesOthers 212 = some (.istore 6) := by decide +kernel
theorem aX4_doesOthers_214 : mm_at mX4_doesOthers 214 = some (.iload 6) := by decide +kernel
theorem aX4_doesOthers_216 : mm_at mX4_doesOthers 216 = some (.bipush 6) := by decide +kernel
theorem aX4_doesOthers_218 : mm_at mX4_doesOthers 218 = some (.if_icmp .ge 19) := by decide +kernel
theorem aX4_doesOthers_221 : mm_at mX4_doesOthers 221 = some (.aload_n 0) := by decide +kernel
theorem aX4_doesOthers_222 : mm_at mX4_doesOthers 222 = some (.iload 4) := by decide +kernel
theorem aX4_doesOthers_224 : mm_at mX4_doesOthers 224 = some (.iload 6) := by decide +kernel
theorem aX4_doesOthers_226 : mm_at mX4_doesOthers 226 = some (.invokevirtual 117) := by decide +kernel
theorem aX4_doesOthers_229 : mm_at mX4_doesOthers 229 = some (.istore 7) := by decide +kernel
theorem aX4_doesOthers_231 : mm_at mX4_doesOthers 231 = some (.iinc 6 1) := by decide +kernel
theorem aX4_doesOthers_234 : mm_at mX4_doesOthers 234 = some (.goto (-20)) := by decide +kernel
theorem aX4_doesOthers_237 : mm_at mX4_doesOthers 237 = some (.goto 43) := by decide +kernel
theorem aX4_doesOthers_240 : mm_at mX4_doesOthers 240 = some (.aload_n 0) := by decide +kernel
theorem aX4_doesOthers_241 : mm_at mX4_doesOthers 241 = some (.iload 4) := by decide +kernel
theorem aX4_doesOthers_243 : mm_at mX4_doesOthers 243 = some (.iload 5) := by decide +kernel
theorem aX4_doesOthers_245 : mm_at mX4_doesOthers 245 = some (.invokevirtual 109) := by decide +kernel
theorem aX4_doesOthers_248 : mm_at mX4_doesOthers 248 = some (.iconst (-1)) := by decide +kernel
theorem aX4_doesOthers_249 : mm_at mX4_doesOthers 249 = some (.if_icmp .ne 31) := by decide +kernel
theorem aX4_doesOthers_252 : mm_at mX4_doesOthers 252 = some (.aload_n 0) := by decide +kernel
theorem aX4_doesOthers_253 : mm_at mX4_doesOthers 253 = some (.getfield 20) := by decide +kernel
theorem aX4_doesOthers_256 : mm_at mX4_doesOthers 256 = some (.iload 5) := by decide +kernel
theorem aX4_doesOthers_258 : mm_at mX4_doesOthers 258 = some (.iaload) := by decide +kernel
theorem aX4_doesOthers_259 : mm_at mX4_doesOthers 259 = some (.bipush 12) := by decide +kernel
theorem aX4_doesOthers_261 : mm_at mX4_doesOthers 261 = some (.if_icmp .ne 11) := by decide +kernel
theorem aX4_doesOthers_264 : mm_at mX4_doesOthers 264 = some (.aload_n 0) := by decide +kernel
theorem aX4_doesOthers_265 : mm_at mX4_doesOthers 265 = some (.iconst 4) := by decide +kernel
theorem aX4_doesOthers_266 : mm_at mX4_doesOthers 266 = some (.putfield 126) := by decide +kernel
theorem aX4_doesOthers_269 : mm_at mX4_doesOthers 269 = some (.goto 11) := by decide +kernel
theorem aX4_doesOthers_272 : mm_at mX4_doesOthers 272 = some (.aload_n 0) := by decide +kernel
theorem aX4_doesOthers_273 : mm_at mX4_doesOthers 273 = some (.iload 4) := by decide +kernel
theorem aX4_doesOthers_275 : mm_at mX4_doesOthers 275 = some (.iload 5) := by decide +kernel
theorem aX4_doesOthers_277 : mm_at mX4_doesOthers 277 = some (.invokevirtual 113) := by decide +kernel
theorem aX4_doesOthers_280 : mm_at mX4_doesOthers 280 = some (.return_) := by decide +kernel
theorem aX4_fails_0 : mm_at mX4_fails 0 = some (.aload_n 0) := by decide +kernel
theorem aX4_fails_1 : mm_at mX4_fails 1 = some (.getfield 126) := by decide +kernel
theorem aX4_fails_4 : mm_at mX4_fails 4 = some (.iconst 5) := by decide +kernel
theorem aX4_fails_5 : mm_at mX4_fails 5 = some (.if_icmp .eq 12) := by decide +kernel
theorem aX4_fails_8 : mm_at mX4_fails 8 = some (.aload_n 0) := by decide +kernel
theorem aX4_fails_9 : mm_at mX4_fails 9 = some (.getfield 126) := by decide +kernel
theorem aX4_fails_12 : mm_at mX4_fails 12 = some (.bipush 6) := by decide +kernel
theorem aX4_fails_14 : mm_at mX4_fails 14 = some (.if_icmp .ne 7) := by decide +kernel
theorem aX4_fails_17 : mm_at mX4_fails 17 = some (.iconst 1) := by decide +kernel
theorem aX4_fails_18 : mm_at mX4_fails 18 = some (.goto 4) := by decide +kernel
theorem aX4_fails_21 : mm_at mX4_fails 21 = some (.iconst 0) := by decide +kernel
theorem aX4_fails_22 : mm_at mX4_fails 22 = some (.istore_n 1) := by decide +kernel
theorem aX4_fails_23 : mm_at mX4_fails 23 = some (.aload_n 0) := by decide +kernel
theorem aX4_fails_24 : mm_at mX4_fails 24 = some (.getfield 120) := by decide +kernel
theorem aX4_fails_27 : mm_at mX4_fails 27 = some (.ifCond .le 165) := by decide +kernel
theorem aX4_fails_30 : mm_at mX4_fails 30 = some (.aload_n 0) := by decide +kernel
theorem aX4_fails_31 : mm_at mX4_fails 31 = some (.getfield 126) := by decide +kernel
theorem aX4_fails_34 : mm_at mX4_fails 34 = some (.ifCond .eq 158) := by decide +kernel
theorem aX4_fails_37 : mm_at mX4_fails 37 = some (.aload_n 0) := by decide +kernel
theorem aX4_fails_38 : mm_at mX4_fails 38 = some (.getfield 120) := by decide +kernel
theorem aX4_fails_41 : mm_at mX4_fails 41 = some (.iconst 1) := by decide +kernel
theorem aX4_fails_42 : mm_at mX4_fails 42 = some (.isub) := by decide +kernel
theorem aX4_fails_43 : mm_at mX4_fails 43 = some (.istore_n 2) := by decide +kernel
theorem aX4_fails_44 : mm_at mX4_fails 44 = some (.iload_n 1) := by decide +kernel
theorem aX4_fails_45 : mm_at mX4_fails 45 = some (.ifCond .ne 56) := by decide +kernel
theorem aX4_fails_48 : mm_at mX4_fails 48 = some (.aload_n 0) := by decide +kernel
theorem aX4_fails_49 : mm_at mX4_fails 49 = some (.getfield 56) := by decide +kernel
theorem aX4_fails_52 : mm_at mX4_fails 52 = some (.iload_n 2) := by decide +kernel
theorem aX4_fails_53 : mm_at mX4_fails 53 = some (.iaload) := by decide +kernel
theorem aX4_fails_54 : mm_at mX4_fails 54 = some (.ifCond .ne 47) := by decide +kernel
theorem aX4_fails_57 : mm_at mX4_fails 57 = some (.aload_n 0) := by decide +kernel
theorem aX4_fails_58 : mm_at mX4_fails 58 = some (.getfield 13) := by decide +kernel
theorem aX4_fails_61 : mm_at mX4_fails 61 = some (.aload_n 0) := by decide +kernel
theorem aX4_fails_62 : mm_at mX4_fails 62 = some (.getfield 59) := by decide +kernel
theorem aX4_fails_65 : mm_at mX4_fails 65 = some (.iload_n 2) := by decide +kernel
theorem aX4_fails_66 : mm_at mX4_fails 66 = some (.iaload) := by decide +kernel
theorem aX4_fails_67 : mm_at mX4_fails 67 = some (.iaload) := by decide +kernel
theorem aX4_fails_68 : mm_at mX4_fails 68 = some (.iconst 1) := by decide +kernel
theorem aX4_fails_69 : mm_at mX4_fails 69 = some (.if_icmp .ne 32) := by decide +kernel
theorem aX4_fails_72 : mm_at mX4_fails 72 = some (.aload_n 0) := by decide +kernel
theorem aX4_fails_73 : mm_at mX4_fails 73 = some (.getfield 74) := by decide +kernel
theorem aX4_fails_76 : mm_at mX4_fails 76 = some (.iconst 3) := by decide +kernel
theorem aX4_fails_77 : mm_at mX4_fails 77 = some (.dup2) := by decide +kernel
theorem aX4_fails_78 : mm_at mX4_fails 78 = some (.iaload) := by decide +kernel
theorem aX4_fails_79 : mm_at mX4_fails 79 = some (.iconst 1) := by decide +kernel
theorem aX4_fails_80 : mm_at mX4_fails 80 = some (.iadd) := by decide +kernel
theorem aX4_fails_81 : mm_at mX4_fails 81 = some (.iastore) := by decide +kernel
theorem aX4_fails_82 : mm_at mX4_fails 82 = some (.aload_n 0) := by decide +kernel
theorem aX4_fails_83 : mm_at mX4_fails 83 = some (.getfield 74) := by decide +kernel
theorem aX4_fails_86 : mm_at mX4_fails 86 = some (.bipush 9) := by decide +kernel
theorem aX4_fails_88 : mm_at mX4_fails 88 = some (.dup2) := by decide +kernel
theorem aX4_fails_89 : mm_at mX4_fails 89 = some (.iaload) := by decide +kernel
theorem aX4_fails_90 : mm_at mX4_fails 90 = some (.iconst 1) := by decide +kernel
theorem aX4_fails_91 : mm_at mX4_fails 91 = some (.iadd) := by decide +kernel
theorem aX4_fails_92 : mm_at mX4_fails 92 = some (.iastore) := by decide +kernel
theorem aX4_fails_93 : mm_at mX4_fails 93 = some (.aload_n 0) := by decide +kernel
theorem aX4_fails_94 : mm_at mX4_fails 94 = some (.iconst 0) := by decide +kernel
theorem aX4_fails_95 : mm_at mX4_fails 95 = some (.putfield 126) := by decide +kernel
theorem aX4_fails_98 : mm_at mX4_fails 98 = some (.goto 91) := by decide +kernel
theorem aX4_fails_101 : mm_at mX4_fails 101 = some (.aload_n 0) := by decide +kernel
theorem aX4_fails_102 : mm_at mX4_fails 102 = some (.dup) := by decide +kernel
theorem aX4_fails_103 : mm_at mX4_fails 103 = some (.getfield 120) := by decide +kernel
theorem aX4_fails_106 : mm_at mX4_fails 106 = some (.iconst 1) := by decide +kernel
theorem aX4_fails_107 : mm_at mX4_fails 107 = some (.isub) := by decide +kernel
theorem aX4_fails_108 : mm_at mX4_fails 108 = some (.putfield 120) := by decide +kernel
theorem aX4_fails_111 : mm_at mX4_fails 111 = some (.aload_n 0) := by decide +kernel
theorem aX4_fails_112 : mm_at mX4_fails 112 = some (.dup) := by decide +kernel
theorem aX4_fails_113 : mm_at mX4_fails 113 = some (.getfield 123) := by decide +kernel
theorem aX4_fails_116 : mm_at mX4_fails 116 = some (.aload_n 0) := by decide +kernel
theorem aX4_fails_117 : mm_at mX4_fails 117 = some (.getfield 56) := by decide +kernel
theorem aX4_fails_120 : mm_at mX4_fails 120 = some (.iload_n 2) := by decide +kernel
theorem aX4_fails_121 : mm_at mX4_fails 121 = some (.iaload) := by decide +kernel
theorem aX4_fails_122 : mm_at mX4_fails 122 = some (.ifCond .ne 7) := by decide +kernel
theorem aX4_fails_125 : mm_at mX4_fails 125 = some (.iconst 1) := by decide +kernel
theorem aX4_fails_126 : mm_at mX4_fails 126 = some (.goto 4) := by decide +kernel
theorem aX4_fails_129 : mm_at mX4_fails 129 = some (.iconst 0) := by decide +kernel
theorem aX4_fails_130 : mm_at mX4_fails 130 = some (.isub) := by decide +kernel
theorem aX4_fails_131 : mm_at mX4_fails 131 = some (.putfield 123) := by decide +kernel
theorem aX4_fails_134 : mm_at mX4_fails 134 = some (.iload_n 1) := by decide +kernel
theorem aX4_fails_135 : mm_at mX4_fails 135 = some (.ifCond .ne 54) := by decide +kernel
theorem aX4_fails_138 : mm_at mX4_fails 138 = some (.aload_n 0) := by decide +kernel
theorem aX4_fails_139 : mm_at mX4_fails 139 = some (.getfield 56) := by decide +kernel
theorem aX4_fails_142 : mm_at mX4_fails 142 = some (.iload_n 2) := by decide +kernel
theorem aX4_fails_143 : mm_at mX4_fails 143 = some (.iaload) := by decide +kernel
theorem aX4_fails_144 : mm_at mX4_fails 144 = some (.iconst 1) := by decide +kernel
theorem aX4_fails_145 : mm_at mX4_fails 145 = some (.if_icmp .ne 44) := by decide +kernel
theorem aX4_fails_148 : mm_at mX4_fails 148 = some (.aload_n 0) := by decide +kernel
theorem aX4_fails_149 : mm_at mX4_fails 149 = some (.getfield 7) := by decide +kernel
theorem aX4_fails_152 : mm_at mX4_fails 152 = some (.aload_n 0) := by decide +kernel
theorem aX4_fails_153 : mm_at mX4_fails 153 = some (.getfield 59) := by decide +kernel
theorem aX4_fails_156 : mm_at mX4_fails 156 = some (.iload_n 2) := by decide +kernel
theorem aX4_fails_157 : mm_at mX4_fails 157 = some (.iaload) := by decide +kernel
theorem aX4_fails_158 : mm_at mX4_fails 158 = some (.dup2) := by decide +kernel
theorem aX4_fails_159 : mm_at mX4_fails 159 = some (.laload) := by decide +kernel
theorem aX4_fails_160 : mm_at mX4_fails 160 = some (.lconst 1) := by decide +kernel
theorem aX4_fails_161 : mm_at mX4_fails 161 = some (.ladd) := by decide +kernel
theorem aX4_fails_162 : mm_at mX4_fails 162 = some (.lastore) := by decide +kernel
theorem aX4_fails_163 : mm_at mX4_fails 163 = some (.aload_n 0) := by decide +kernel
theorem aX4_fails_164 : mm_at mX4_fails 164 = some (.getfield 74) := by decide +kernel
theorem aX4_fails_167 : mm_at mX4_fails 167 = some (.iconst 5) := by decide +kernel
theorem aX4_fails_168 : mm_at mX4_fails 168 = some (.dup2) := by decide +kernel
theorem aX4_fails_169 : mm_at mX4_fails 169 = some (.iaload) := by decide +kernel
theorem aX4_fails_170 : mm_at mX4_fails 170 = some (.iconst 1) := by decide +kernel
theorem aX4_fails_171 : mm_at mX4_fails 171 = some (.iadd) := by decide +kernel
theorem aX4_fails_172 : mm_at mX4_fails 172 = some (.iastore) := by decide +kernel
theorem aX4_fails_173 : mm_at mX4_fails 173 = some (.aload_n 0) := by decide +kernel
theorem aX4_fails_174 : mm_at mX4_fails 174 = some (.getfield 74) := by decide +kernel
theorem aX4_fails_177 : mm_at mX4_fails 177 = some (.bipush 9) := by decide +kernel
theorem aX4_fails_179 : mm_at mX4_fails 179 = some (.dup2) := by decide +kernel
theorem aX4_fails_180 : mm_at mX4_fails 180 = some (.iaload) := by decide +kernel
theorem aX4_fails_181 : mm_at mX4_fails 181 = some (.iconst 1) := by decide +kernel
theorem aX4_fails_182 : mm_at mX4_fails 182 = some (.iadd) := by decide +kernel
theorem aX4_fails_183 : mm_at mX4_fails 183 = some (.iastore) := by decide +kernel
theorem aX4_fails_184 : mm_at mX4_fails 184 = some (.aload_n 0) := by decide +kernel
theorem aX4_fails_185 : mm_at mX4_fails 185 = some (.iconst 0) := by decide +kernel
theorem aX4_fails_186 : mm_at mX4_fails 186 = some (.putfield 126) := by decide +kernel
theorem aX4_fails_189 : mm_at mX4_fails 189 = some (.goto (-166)) := by decide +kernel
theorem aX4_fails_192 : mm_at mX4_fails 192 = some (.return_) := by decide +kernel
theorem aX4_stop_0 : mm_at mX4_stop 0 = some (.aload_n 0) := by decide +kernel
theorem aX4_stop_1 : mm_at mX4_stop 1 = some (.iconst 0) := by decide +kernel
theorem aX4_stop_2 : mm_at mX4_stop 2 = some (.putfield 150) := by decide +kernel
theorem aX4_stop_5 : mm_at mX4_stop 5 = some (.aload_n 0) := by decide +kernel
theorem aX4_stop_6 : mm_at mX4_stop 6 = some (.getfield 120) := by decide +kernel
theorem aX4_stop_9 : mm_at mX4_stop 9 = some (.ifCond .le 7) := by decide +kernel
theorem aX4_stop_12 : mm_at mX4_stop 12 = some (.iconst 1) := by decide +kernel
theorem aX4_stop_13 : mm_at mX4_stop 13 = some (.goto 4) := by decide +kernel
theorem aX4_stop_16 : mm_at mX4_stop 16 = some (.iconst 0) := by decide +kernel
theorem aX4_stop_17 : mm_at mX4_stop 17 = some (.istore_n 1) := by decide +kernel
theorem aX4_stop_18 : mm_at mX4_stop 18 = some (.iload_n 1) := by decide +kernel
theorem aX4_stop_19 : mm_at mX4_stop 19 = some (.ifCond .eq 67) := by decide +kernel
theorem aX4_stop_22 : mm_at mX4_stop 22 = some (.aload_n 0) := by decide +kernel
theorem aX4_stop_23 : mm_at mX4_stop 23 = some (.dup) := by decide +kernel
theorem aX4_stop_24 : mm_at mX4_stop 24 = some (.getfield 120) := by decide +kernel
theorem aX4_stop_27 : mm_at mX4_stop 27 = some (.iconst 1) := by decide +kernel
theorem aX4_stop_28 : mm_at mX4_stop 28 = some (.isub) := by decide +kernel
theorem aX4_stop_29 : mm_at mX4_stop 29 = some (.putfield 120) := by decide +kernel
theorem aX4_stop_32 : mm_at mX4_stop 32 = some (.aload_n 0) := by decide +kernel
theorem aX4_stop_33 : mm_at mX4_stop 33 = some (.getfield 120) := by decide +kernel
theorem aX4_stop_36 : mm_at mX4_stop 36 = some (.ifCond .le 19) := by decide +kernel
theorem aX4_stop_39 : mm_at mX4_stop 39 = some (.aload_n 0) := by decide +kernel
theorem aX4_stop_40 : mm_at mX4_stop 40 = some (.getfield 56) := by decide +kernel
theorem aX4_stop_43 : mm_at mX4_stop 43 = some (.aload_n 0) := by decide +kernel
theorem aX4_stop_44 : mm_at mX4_stop 44 = some (.getfield 120) := by decide +kernel
theorem aX4_stop_47 : mm_at mX4_stop 47 = some (.iaload) := by decide +kernel
theorem aX4_stop_48 : mm_at mX4_stop 48 = some (.ifCond .eq 7) := by decide +kernel
theorem aX4_stop_51 : mm_at mX4_stop 51 = some (.iconst 1) := by decide +kernel
theorem aX4_stop_52 : mm_at mX4_stop 52 = some (.goto 4) := by decide +kernel
theorem aX4_stop_55 : mm_at mX4_stop 55 = some (.iconst 0) := by decide +kernel
theorem aX4_stop_56 : mm_at mX4_stop 56 = some (.istore_n 1) := by decide +kernel
theorem aX4_stop_57 : mm_at mX4_stop 57 = some (.aload_n 0) := by decide +kernel
theorem aX4_stop_58 : mm_at mX4_stop 58 = some (.dup) := by decide +kernel
theorem aX4_stop_59 : mm_at mX4_stop 59 = some (.getfield 123) := by decide +kernel
theorem aX4_stop_62 : mm_at mX4_stop 62 = some (.aload_n 0) := by decide +kernel
theorem aX4_stop_63 : mm_at mX4_stop 63 = some (.getfield 56) := by decide +kernel
theorem aX4_stop_66 : mm_at mX4_stop 66 = some (.aload_n 0) := by decide +kernel
theorem aX4_stop_67 : mm_at mX4_stop 67 = some (.getfield 120) := by decide +kernel
theorem aX4_stop_70 : mm_at mX4_stop 70 = some (.iaload) := by decide +kernel
theorem aX4_stop_71 : mm_at mX4_stop 71 = some (.ifCond .ne 7) := by decide +kernel
theorem aX4_stop_74 : mm_at mX4_stop 74 = some (.iconst 1) := by decide +kernel
theorem aX4_stop_75 : mm_at mX4_stop 75 = some (.goto 4) := by decide +kernel
theorem aX4_stop_78 : mm_at mX4_stop 78 = some (.iconst 0) := by decide +kernel
theorem aX4_stop_79 : mm_at mX4_stop 79 = some (.isub) := by decide +kernel
theorem aX4_stop_80 : mm_at mX4_stop 80 = some (.putfield 123) := by decide +kernel
theorem aX4_stop_83 : mm_at mX4_stop 83 = some (.goto (-65)) := by decide +kernel
theorem aX4_stop_86 : mm_at mX4_stop 86 = some (.return_) := by decide +kernel
theorem aX4_goesOn_0 : mm_at mX4_goesOn 0 = some (.aload_n 0) := by decide +kernel
theorem aX4_goesOn_1 : mm_at mX4_goesOn 1 = some (.getfield 120) := by decide +kernel
theorem aX4_goesOn_4 : mm_at mX4_goesOn 4 = some (.iconst 1) := by decide +kernel
theorem aX4_goesOn_5 : mm_at mX4_goesOn 5 = some (.isub) := by decide +kernel
theorem aX4_goesOn_6 : mm_at mX4_goesOn 6 = some (.istore_n 1) := by decide +kernel
theorem aX4_goesOn_7 : mm_at mX4_goesOn 7 = some (.aload_n 0) := by decide +kernel
theorem aX4_goesOn_8 : mm_at mX4_goesOn 8 = some (.getfield 56) := by decide +kernel
theorem aX4_goesOn_11 : mm_at mX4_goesOn 11 = some (.iload_n 1) := by decide +kernel
theorem aX4_goesOn_12 : mm_at mX4_goesOn 12 = some (.iaload) := by decide +kernel
theorem aX4_goesOn_13 : mm_at mX4_goesOn 13 = some (.ifCond .eq 40) := by decide +kernel
theorem aX4_goesOn_16 : mm_at mX4_goesOn 16 = some (.aload_n 0) := by decide +kernel
theorem aX4_goesOn_17 : mm_at mX4_goesOn 17 = some (.dup) := by decide +kernel
theorem aX4_goesOn_18 : mm_at mX4_goesOn 18 = some (.getfield 120) := by decide +kernel
theorem aX4_goesOn_21 : mm_at mX4_goesOn 21 = some (.iconst 1) := by decide +kernel
theorem aX4_goesOn_22 : mm_at mX4_goesOn 22 = some (.isub) := by decide +kernel
theorem aX4_goesOn_23 : mm_at mX4_goesOn 23 = some (.putfield 120) := by decide +kernel
theorem aX4_goesOn_26 : mm_at mX4_goesOn 26 = some (.aload_n 0) := by decide +kernel
theorem aX4_goesOn_27 : mm_at mX4_goesOn 27 = some (.getfield 56) := by decide +kernel
theorem aX4_goesOn_30 : mm_at mX4_goesOn 30 = some (.iload_n 1) := by decide +kernel
theorem aX4_goesOn_31 : mm_at mX4_goesOn 31 = some (.iaload) := by decide +kernel
theorem aX4_goesOn_32 : mm_at mX4_goesOn 32 = some (.iconst 2) := by decide +kernel
theorem aX4_goesOn_33 : mm_at mX4_goesOn 33 = some (.if_icmp .ne 19) := by decide +kernel
theorem aX4_goesOn_36 : mm_at mX4_goesOn 36 = some (.aload_n 0) := by decide +kernel
theorem aX4_goesOn_37 : mm_at mX4_goesOn 37 = some (.aload_n 0) := by decide +kernel
theorem aX4_goesOn_38 : mm_at mX4_goesOn 38 = some (.getfield 59) := by decide +kernel
theorem aX4_goesOn_41 : mm_at mX4_goesOn 41 = some (.iload_n 1) := by decide +kernel
theorem aX4_goesOn_42 : mm_at mX4_goesOn 42 = some (.iaload) := by decide +kernel
theorem aX4_goesOn_43 : mm_at mX4_goesOn 43 = some (.aload_n 0) := by decide +kernel
theorem aX4_goesOn_44 : mm_at mX4_goesOn 44 = some (.getfield 62) := by decide +kernel
theorem aX4_goesOn_47 : mm_at mX4_goesOn 47 = some (.iload_n 1) := by decide +kernel
theorem aX4_goesOn_48 : mm_at mX4_goesOn 48 = some (.laload) := by decide +kernel
theorem aX4_goesOn_49 : mm_at mX4_goesOn 49 = some (.invokevirtual 157) := by decide +kernel
theorem aX4_goesOn_52 : mm_at mX4_goesOn 52 = some (.return_) := by decide +kernel
theorem aX4_goesOn_53 : mm_at mX4_goesOn 53 = some (.aload_n 0) := by decide +kernel
theorem aX4_goesOn_54 : mm_at mX4_goesOn 54 = some (.getfield 65) := by decide +kernel
theorem aX4_goesOn_57 : mm_at mX4_goesOn 57 = some (.iload_n 1) := by decide +kernel
theorem aX4_goesOn_58 : mm_at mX4_goesOn 58 = some (.iaload) := by decide +kernel
theorem aX4_goesOn_59 : mm_at mX4_goesOn 59 = some (.aload_n 0) := by decide +kernel
theorem aX4_goesOn_60 : mm_at mX4_goesOn 60 = some (.getfield 68) := by decide +kernel
theorem aX4_goesOn_63 : mm_at mX4_goesOn 63 = some (.iload_n 1) := by decide +kernel
theorem aX4_goesOn_64 : mm_at mX4_goesOn 64 = some (.iaload) := by decide +kernel
theorem aX4_goesOn_65 : mm_at mX4_goesOn 65 = some (.if_icmp .ne 24) := by decide +kernel
theorem aX4_goesOn_68 : mm_at mX4_goesOn 68 = some (.aload_n 0) := by decide +kernel
theorem aX4_goesOn_69 : mm_at mX4_goesOn 69 = some (.dup) := by decide +kernel
theorem aX4_goesOn_70 : mm_at mX4_goesOn 70 = some (.getfield 120) := by decide +kernel
theorem aX4_goesOn_73 : mm_at mX4_goesOn 73 = some (.iconst 1) := by decide +kernel
theorem aX4_goesOn_74 : mm_at mX4_goesOn 74 = some (.isub) := by decide +kernel
theorem aX4_goesOn_75 : mm_at mX4_goesOn 75 = some (.putfield 120) := by decide +kernel
theorem aX4_goesOn_78 : mm_at mX4_goesOn 78 = some (.aload_n 0) := by decide +kernel
theorem aX4_goesOn_79 : mm_at mX4_goesOn 79 = some (.dup) := by decide +kernel
theorem aX4_goesOn_80 : mm_at mX4_goesOn 80 = some (.getfield 123) := by decide +kernel
theorem aX4_goesOn_83 : mm_at mX4_goesOn 83 = some (.iconst 1) := by decide +kernel
theorem aX4_goesOn_84 : mm_at mX4_goesOn 84 = some (.isub) := by decide +kernel
theorem aX4_goesOn_85 : mm_at mX4_goesOn 85 = some (.putfield 123) := by decide +kernel
theorem aX4_goesOn_88 : mm_at mX4_goesOn 88 = some (.return_) := by decide +kernel
theorem aX4_goesOn_89 : mm_at mX4_goesOn 89 = some (.aload_n 0) := by decide +kernel
theorem aX4_goesOn_90 : mm_at mX4_goesOn 90 = some (.getfield 71) := by decide +kernel
theorem aX4_goesOn_93 : mm_at mX4_goesOn 93 = some (.bipush 12) := by decide +kernel
theorem aX4_goesOn_95 : mm_at mX4_goesOn 95 = some (.iload_n 1) := by decide +kernel
theorem aX4_goesOn_96 : mm_at mX4_goesOn 96 = some (.imul) := by decide +kernel
theorem aX4_goesOn_97 : mm_at mX4_goesOn 97 = some (.aload_n 0) := by decide +kernel
theorem aX4_goesOn_98 : mm_at mX4_goesOn 98 = some (.getfield 65) := by decide +kernel
theorem aX4_goesOn_101 : mm_at mX4_goesOn 101 = some (.iload_n 1) := by decide +kernel
theorem aX4_goesOn_102 : mm_at mX4_goesOn 102 = some (.iaload) := by decide +kernel
theorem aX4_goesOn_103 : mm_at mX4_goesOn 103 = some (.iadd) := by decide +kernel
theorem aX4_goesOn_104 : mm_at mX4_goesOn 104 = some (.iaload) := by decide +kernel
theorem aX4_goesOn_105 : mm_at mX4_goesOn 105 = some (.istore_n 2) := by decide +kernel
theorem aX4_goesOn_106 : mm_at mX4_goesOn 106 = some (.aload_n 0) := by decide +kernel
theorem aX4_goesOn_107 : mm_at mX4_goesOn 107 = some (.getfield 65) := by decide +kernel
theorem aX4_goesOn_110 : mm_at mX4_goesOn 110 = some (.iload_n 1) := by decide +kernel
theorem aX4_goesOn_111 : mm_at mX4_goesOn 111 = some (.dup2) := by decide +kernel
theorem aX4_goesOn_112 : mm_at mX4_goesOn 112 = some (.iaload) := by decide +kernel
theorem aX4_goesOn_113 : mm_at mX4_goesOn 113 = some (.iconst 1) := by decide +kernel
theorem aX4_goesOn_114 : mm_at mX4_goesOn 114 = some (.iadd) := by decide +kernel
theorem aX4_goesOn_115 : mm_at mX4_goesOn 115 = some (.iastore) := by decide +kernel
theorem aX4_goesOn_116 : mm_at mX4_goesOn 116 = some (.aload_n 0) := by decide +kernel
theorem aX4_goesOn_117 : mm_at mX4_goesOn 117 = some (.iload_n 2) := by decide +kernel
theorem aX4_goesOn_118 : mm_at mX4_goesOn 118 = some (.aload_n 0) := by decide +kernel
theorem aX4_goesOn_119 : mm_at mX4_goesOn 119 = some (.getfield 59) := by decide +kernel
theorem aX4_goesOn_122 : mm_at mX4_goesOn 122 = some (.iload_n 1) := by decide +kernel
theorem aX4_goesOn_123 : mm_at mX4_goesOn 123 = some (.iaload) := by decide +kernel
theorem aX4_goesOn_124 : mm_at mX4_goesOn 124 = some (.invokevirtual 109) := by decide +kernel
theorem aX4_goesOn_127 : mm_at mX4_goesOn 127 = some (.iconst (-1)) := by decide +kernel
theorem aX4_goesOn_128 : mm_at mX4_goesOn 128 = some (.if_icmp .eq 19) := by decide +kernel
theorem aX4_goesOn_131 : mm_at mX4_goesOn 131 = some (.aload_n 0) := by decide +kernel
theorem aX4_goesOn_132 : mm_at mX4_goesOn 132 = some (.aload_n 0) := by decide +kernel
theorem aX4_goesOn_133 : mm_at mX4_goesOn 133 = some (.getfield 47) := by decide +kernel
end
section
theorem aX4_goesOn_136 : mm_at mX4_goesOn 136 = some (.iload_n 2) := by decide +kernel
theorem aX4_goesOn_137 : mm_at mX4_goesOn 137 = some (.iaload) := by decide +kernel
theorem aX4_goesOn_138 : mm_at mX4_goesOn 138 = some (.aload_n 0) := by decide +kernel
theorem aX4_goesOn_139 : mm_at mX4_goesOn 139 = some (.getfield 62) := by decide +kernel
theorem aX4_goesOn_142 : mm_at mX4_goesOn 142 = some (.iload_n 1) := by decide +kernel
theorem aX4_goesOn_143 : mm_at mX4_goesOn 143 = some (.laload) := by decide +kernel
theorem aX4_goesOn_144 : mm_at mX4_goesOn 144 = some (.invokevirtual 157) := by decide +kernel
theorem aX4_goesOn_147 : mm_at mX4_goesOn 147 = some (.return_) := by decide +kernel
theorem aX4_works_0 : mm_at mX4_works 0 = some (.iconst 1) := by decide +kernel
theorem aX4_works_1 : mm_at mX4_works 1 = some (.istore_n 1) := by decide +kernel
theorem aX4_works_2 : mm_at mX4_works 2 = some (.iload_n 1) := by decide +kernel
theorem aX4_works_3 : mm_at mX4_works 3 = some (.ifCond .eq 95) := by decide +kernel
theorem aX4_works_6 : mm_at mX4_works 6 = some (.aload_n 0) := by decide +kernel
theorem aX4_works_7 : mm_at mX4_works 7 = some (.getfield 126) := by decide +kernel
theorem aX4_works_10 : mm_at mX4_works 10 = some (.ifCond .eq 40) := by decide +kernel
theorem aX4_works_13 : mm_at mX4_works 13 = some (.aload_n 0) := by decide +kernel
theorem aX4_works_14 : mm_at mX4_works 14 = some (.getfield 120) := by decide +kernel
theorem aX4_works_17 : mm_at mX4_works 17 = some (.ifCond .le 7) := by decide +kernel
theorem aX4_works_20 : mm_at mX4_works 20 = some (.iconst 1) := by decide +kernel
theorem aX4_works_21 : mm_at mX4_works 21 = some (.goto 4) := by decide +kernel
theorem aX4_works_24 : mm_at mX4_works 24 = some (.iconst 0) := by decide +kernel
theorem aX4_works_25 : mm_at mX4_works 25 = some (.istore_n 2) := by decide +kernel
theorem aX4_works_26 : mm_at mX4_works 26 = some (.aload_n 0) := by decide +kernel
theorem aX4_works_27 : mm_at mX4_works 27 = some (.invokevirtual 160) := by decide +kernel
theorem aX4_works_30 : mm_at mX4_works 30 = some (.aload_n 0) := by decide +kernel
theorem aX4_works_31 : mm_at mX4_works 31 = some (.getfield 126) := by decide +kernel
theorem aX4_works_34 : mm_at mX4_works 34 = some (.ifCond .ne 11) := by decide +kernel
theorem aX4_works_37 : mm_at mX4_works 37 = some (.iload_n 2) := by decide +kernel
theorem aX4_works_38 : mm_at mX4_works 38 = some (.ifCond .eq 7) := by decide +kernel
theorem aX4_works_41 : mm_at mX4_works 41 = some (.iconst 1) := by decide +kernel
theorem aX4_works_42 : mm_at mX4_works 42 = some (.goto 4) := by decide +kernel
theorem aX4_works_45 : mm_at mX4_works 45 = some (.iconst 0) := by decide +kernel
theorem aX4_works_46 : mm_at mX4_works 46 = some (.istore_n 1) := by decide +kernel
theorem aX4_works_47 : mm_at mX4_works 47 = some (.goto (-45)) := by decide +kernel
theorem aX4_works_50 : mm_at mX4_works 50 = some (.aload_n 0) := by decide +kernel
theorem aX4_works_51 : mm_at mX4_works 51 = some (.getfield 150) := by decide +kernel
theorem aX4_works_54 : mm_at mX4_works 54 = some (.ifCond .eq 10) := by decide +kernel
theorem aX4_works_57 : mm_at mX4_works 57 = some (.aload_n 0) := by decide +kernel
theorem aX4_works_58 : mm_at mX4_works 58 = some (.invokevirtual 163) := by decide +kernel
theorem aX4_works_61 : mm_at mX4_works 61 = some (.goto (-59)) := by decide +kernel
theorem aX4_works_64 : mm_at mX4_works 64 = some (.aload_n 0) := by decide +kernel
theorem aX4_works_65 : mm_at mX4_works 65 = some (.getfield 133) := by decide +kernel
theorem aX4_works_68 : mm_at mX4_works 68 = some (.iconst (-1)) := by decide +kernel
theorem aX4_works_69 : mm_at mX4_works 69 = some (.if_icmp .eq 10) := by decide +kernel
theorem aX4_works_72 : mm_at mX4_works 72 = some (.aload_n 0) := by decide +kernel
theorem aX4_works_73 : mm_at mX4_works 73 = some (.invokevirtual 166) := by decide +kernel
theorem aX4_works_76 : mm_at mX4_works 76 = some (.goto (-74)) := by decide +kernel
theorem aX4_works_79 : mm_at mX4_works 79 = some (.aload_n 0) := by decide +kernel
theorem aX4_works_80 : mm_at mX4_works 80 = some (.getfield 120) := by decide +kernel
theorem aX4_works_83 : mm_at mX4_works 83 = some (.ifCond .le 10) := by decide +kernel
theorem aX4_works_86 : mm_at mX4_works 86 = some (.aload_n 0) := by decide +kernel
theorem aX4_works_87 : mm_at mX4_works 87 = some (.invokevirtual 169) := by decide +kernel
theorem aX4_works_90 : mm_at mX4_works 90 = some (.goto (-88)) := by decide +kernel
theorem aX4_works_93 : mm_at mX4_works 93 = some (.iconst 0) := by decide +kernel
theorem aX4_works_94 : mm_at mX4_works 94 = some (.istore_n 1) := by decide +kernel
theorem aX4_works_95 : mm_at mX4_works 95 = some (.goto (-93)) := by decide +kernel
theorem aX4_works_98 : mm_at mX4_works 98 = some (.return_) := by decide +kernel
theorem aX4_ready_0 : mm_at mX4_ready 0 = some (.aload_n 0) := by decide +kernel
theorem aX4_ready_1 : mm_at mX4_ready 1 = some (.iconst 0) := by decide +kernel
theorem aX4_ready_2 : mm_at mX4_ready 2 = some (.putfield 120) := by decide +kernel
theorem aX4_ready_5 : mm_at mX4_ready 5 = some (.aload_n 0) := by decide +kernel
theorem aX4_ready_6 : mm_at mX4_ready 6 = some (.iconst 0) := by decide +kernel
theorem aX4_ready_7 : mm_at mX4_ready 7 = some (.putfield 123) := by decide +kernel
theorem aX4_ready_10 : mm_at mX4_ready 10 = some (.aload_n 0) := by decide +kernel
theorem aX4_ready_11 : mm_at mX4_ready 11 = some (.iconst 0) := by decide +kernel
theorem aX4_ready_12 : mm_at mX4_ready 12 = some (.putfield 140) := by decide +kernel
theorem aX4_ready_15 : mm_at mX4_ready 15 = some (.aload_n 0) := by decide +kernel
theorem aX4_ready_16 : mm_at mX4_ready 16 = some (.iconst 0) := by decide +kernel
theorem aX4_ready_17 : mm_at mX4_ready 17 = some (.putfield 126) := by decide +kernel
theorem aX4_ready_20 : mm_at mX4_ready 20 = some (.aload_n 0) := by decide +kernel
theorem aX4_ready_21 : mm_at mX4_ready 21 = some (.iconst 0) := by decide +kernel
theorem aX4_ready_22 : mm_at mX4_ready 22 = some (.putfield 150) := by decide +kernel
theorem aX4_ready_25 : mm_at mX4_ready 25 = some (.aload_n 0) := by decide +kernel
theorem aX4_ready_26 : mm_at mX4_ready 26 = some (.iconst (-1)) := by decide +kernel
theorem aX4_ready_27 : mm_at mX4_ready 27 = some (.putfield 133) := by decide +kernel
theorem aX4_ready_30 : mm_at mX4_ready 30 = some (.return_) := by decide +kernel
theorem aX4_all_0 : mm_at mX4_all 0 = some (.aload_n 0) := by decide +kernel
theorem aX4_all_1 : mm_at mX4_all 1 = some (.invokevirtual 172) := by decide +kernel
theorem aX4_all_4 : mm_at mX4_all 4 = some (.aload_n 0) := by decide +kernel
theorem aX4_all_5 : mm_at mX4_all 5 = some (.getfield 126) := by decide +kernel
theorem aX4_all_8 : mm_at mX4_all 8 = some (.ifCond .ne 97) := by decide +kernel
theorem aX4_all_11 : mm_at mX4_all 11 = some (.aload_n 0) := by decide +kernel
theorem aX4_all_12 : mm_at mX4_all 12 = some (.getfield 147) := by decide +kernel
theorem aX4_all_15 : mm_at mX4_all 15 = some (.ifCond .le 90) := by decide +kernel
theorem aX4_all_18 : mm_at mX4_all 18 = some (.aload_n 0) := by decide +kernel
theorem aX4_all_19 : mm_at mX4_all 19 = some (.getfield 50) := by decide +kernel
theorem aX4_all_22 : mm_at mX4_all 22 = some (.iconst 0) := by decide +kernel
theorem aX4_all_23 : mm_at mX4_all 23 = some (.iaload) := by decide +kernel
theorem aX4_all_24 : mm_at mX4_all 24 = some (.istore_n 1) := by decide +kernel
theorem aX4_all_25 : mm_at mX4_all 25 = some (.aload_n 0) := by decide +kernel
theorem aX4_all_26 : mm_at mX4_all 26 = some (.getfield 53) := by decide +kernel
theorem aX4_all_29 : mm_at mX4_all 29 = some (.iconst 0) := by decide +kernel
theorem aX4_all_30 : mm_at mX4_all 30 = some (.laload) := by decide +kernel
theorem aX4_all_31 : mm_at mX4_all 31 = some (.lstore_n 2) := by decide +kernel
theorem aX4_all_32 : mm_at mX4_all 32 = some (.aload_n 0) := by decide +kernel
theorem aX4_all_33 : mm_at mX4_all 33 = some (.dup) := by decide +kernel
theorem aX4_all_34 : mm_at mX4_all 34 = some (.getfield 147) := by decide +kernel
theorem aX4_all_37 : mm_at mX4_all 37 = some (.iconst 1) := by decide +kernel
theorem aX4_all_38 : mm_at mX4_all 38 = some (.isub) := by decide +kernel
theorem aX4_all_39 : mm_at mX4_all 39 = some (.putfield 147) := by decide +kernel
theorem aX4_all_42 : mm_at mX4_all 42 = some (.iconst 0) := by decide +kernel
theorem aX4_all_43 : mm_at mX4_all 43 = some (.istore 4) := by decide +kernel
theorem aX4_all_45 : mm_at mX4_all 45 = some (.iload 4) := by decide +kernel
theorem aX4_all_47 : mm_at mX4_all 47 = some (.aload_n 0) := by decide +kernel
theorem aX4_all_48 : mm_at mX4_all 48 = some (.getfield 147) := by decide +kernel
theorem aX4_all_51 : mm_at mX4_all 51 = some (.if_icmp .ge 41) := by decide +kernel
theorem aX4_all_54 : mm_at mX4_all 54 = some (.aload_n 0) := by decide +kernel
theorem aX4_all_55 : mm_at mX4_all 55 = some (.getfield 50) := by decide +kernel
theorem aX4_all_58 : mm_at mX4_all 58 = some (.iload 4) := by decide +kernel
theorem aX4_all_60 : mm_at mX4_all 60 = some (.aload_n 0) := by decide +kernel
theorem aX4_all_61 : mm_at mX4_all 61 = some (.getfield 50) := by decide +kernel
theorem aX4_all_64 : mm_at mX4_all 64 = some (.iload 4) := by decide +kernel
theorem aX4_all_66 : mm_at mX4_all 66 = some (.iconst 1) := by decide +kernel
theorem aX4_all_67 : mm_at mX4_all 67 = some (.iadd) := by decide +kernel
theorem aX4_all_68 : mm_at mX4_all 68 = some (.iaload) := by decide +kernel
theorem aX4_all_69 : mm_at mX4_all 69 = some (.iastore) := by decide +kernel
theorem aX4_all_70 : mm_at mX4_all 70 = some (.aload_n 0) := by decide +kernel
theorem aX4_all_71 : mm_at mX4_all 71 = some (.getfield 53) := by decide +kernel
theorem aX4_all_74 : mm_at mX4_all 74 = some (.iload 4) := by decide +kernel
theorem aX4_all_76 : mm_at mX4_all 76 = some (.aload_n 0) := by decide +kernel
theorem aX4_all_77 : mm_at mX4_all 77 = some (.getfield 53) := by decide +kernel
theorem aX4_all_80 : mm_at mX4_all 80 = some (.iload 4) := by decide +kernel
theorem aX4_all_82 : mm_at mX4_all 82 = some (.iconst 1) := by decide +kernel
theorem aX4_all_83 : mm_at mX4_all 83 = some (.iadd) := by decide +kernel
theorem aX4_all_84 : mm_at mX4_all 84 = some (.laload) := by decide +kernel
theorem aX4_all_85 : mm_at mX4_all 85 = some (.lastore) := by decide +kernel
theorem aX4_all_86 : mm_at mX4_all 86 = some (.iinc 4 1) := by decide +kernel
theorem aX4_all_89 : mm_at mX4_all 89 = some (.goto (-44)) := by decide +kernel
theorem aX4_all_92 : mm_at mX4_all 92 = some (.aload_n 0) := by decide +kernel
theorem aX4_all_93 : mm_at mX4_all 93 = some (.iload_n 1) := by decide +kernel
theorem aX4_all_94 : mm_at mX4_all 94 = some (.lload_n 2) := by decide +kernel
theorem aX4_all_95 : mm_at mX4_all 95 = some (.invokevirtual 143) := by decide +kernel
theorem aX4_all_98 : mm_at mX4_all 98 = some (.aload_n 0) := by decide +kernel
theorem aX4_all_99 : mm_at mX4_all 99 = some (.invokevirtual 172) := by decide +kernel
theorem aX4_all_102 : mm_at mX4_all 102 = some (.goto (-98)) := by decide +kernel
theorem aX4_all_105 : mm_at mX4_all 105 = some (.aload_n 0) := by decide +kernel
theorem aX4_all_106 : mm_at mX4_all 106 = some (.getfield 126) := by decide +kernel
theorem aX4_all_109 : mm_at mX4_all 109 = some (.ifCond .ne 8) := by decide +kernel
theorem aX4_all_112 : mm_at mX4_all 112 = some (.aload_n 0) := by decide +kernel
theorem aX4_all_113 : mm_at mX4_all 113 = some (.getfield 140) := by decide +kernel
theorem aX4_all_116 : mm_at mX4_all 116 = some (.ireturn) := by decide +kernel
theorem aX4_all_117 : mm_at mX4_all 117 = some (.aload_n 0) := by decide +kernel
theorem aX4_all_118 : mm_at mX4_all 118 = some (.getfield 74) := by decide +kernel
theorem aX4_all_121 : mm_at mX4_all 121 = some (.iconst 4) := by decide +kernel
theorem aX4_all_122 : mm_at mX4_all 122 = some (.dup2) := by decide +kernel
theorem aX4_all_123 : mm_at mX4_all 123 = some (.iaload) := by decide +kernel
theorem aX4_all_124 : mm_at mX4_all 124 = some (.iconst 1) := by decide +kernel
theorem aX4_all_125 : mm_at mX4_all 125 = some (.iadd) := by decide +kernel
theorem aX4_all_126 : mm_at mX4_all 126 = some (.iastore) := by decide +kernel
theorem aX4_all_127 : mm_at mX4_all 127 = some (.aload_n 0) := by decide +kernel
theorem aX4_all_128 : mm_at mX4_all 128 = some (.getfield 74) := by decide +kernel
theorem aX4_all_131 : mm_at mX4_all 131 = some (.bipush 9) := by decide +kernel
theorem aX4_all_133 : mm_at mX4_all 133 = some (.dup2) := by decide +kernel
theorem aX4_all_134 : mm_at mX4_all 134 = some (.iaload) := by decide +kernel
theorem aX4_all_135 : mm_at mX4_all 135 = some (.iconst 1) := by decide +kernel
theorem aX4_all_136 : mm_at mX4_all 136 = some (.iadd) := by decide +kernel
theorem aX4_all_137 : mm_at mX4_all 137 = some (.iastore) := by decide +kernel
theorem aX4_all_138 : mm_at mX4_all 138 = some (.aload_n 0) := by decide +kernel
theorem aX4_all_139 : mm_at mX4_all 139 = some (.getfield 74) := by decide +kernel
theorem aX4_all_142 : mm_at mX4_all 142 = some (.bipush 8) := by decide +kernel
theorem aX4_all_144 : mm_at mX4_all 144 = some (.aload_n 0) := by decide +kernel
theorem aX4_all_145 : mm_at mX4_all 145 = some (.getfield 126) := by decide +kernel
theorem aX4_all_148 : mm_at mX4_all 148 = some (.iastore) := by decide +kernel
theorem aX4_all_149 : mm_at mX4_all 149 = some (.bipush (-10)) := by decide +kernel
theorem aX4_all_151 : mm_at mX4_all 151 = some (.aload_n 0) := by decide +kernel
theorem aX4_all_152 : mm_at mX4_all 152 = some (.getfield 126) := by decide +kernel
theorem aX4_all_155 : mm_at mX4_all 155 = some (.isub) := by decide +kernel
theorem aX4_all_156 : mm_at mX4_all 156 = some (.ireturn) := by decide +kernel
theorem aX4_ring_0 : mm_at mX4_ring 0 = some (.iload_n 1) := by decide +kernel
theorem aX4_ring_1 : mm_at mX4_ring 1 = some (.invokestatic 97) := by decide +kernel
theorem aX4_ring_4 : mm_at mX4_ring 4 = some (.ifCond .ne 6) := by decide +kernel
theorem aX4_ring_7 : mm_at mX4_ring 7 = some (.bipush (-2)) := by decide +kernel
theorem aX4_ring_9 : mm_at mX4_ring 9 = some (.ireturn) := by decide +kernel
theorem aX4_ring_10 : mm_at mX4_ring 10 = some (.aload_n 0) := by decide +kernel
theorem aX4_ring_11 : mm_at mX4_ring 11 = some (.getfield 74) := by decide +kernel
theorem aX4_ring_14 : mm_at mX4_ring 14 = some (.bipush 9) := by decide +kernel
theorem aX4_ring_16 : mm_at mX4_ring 16 = some (.iaload) := by decide +kernel
theorem aX4_ring_17 : mm_at mX4_ring 17 = some (.sipush 2000) := by decide +kernel
theorem aX4_ring_20 : mm_at mX4_ring 20 = some (.if_icmp .lt 6) := by decide +kernel
theorem aX4_ring_23 : mm_at mX4_ring 23 = some (.bipush (-3)) := by decide +kernel
theorem aX4_ring_25 : mm_at mX4_ring 25 = some (.ireturn) := by decide +kernel
theorem aX4_ring_26 : mm_at mX4_ring 26 = some (.aload_n 0) := by decide +kernel
theorem aX4_ring_27 : mm_at mX4_ring 27 = some (.invokevirtual 175) := by decide +kernel
theorem aX4_ring_30 : mm_at mX4_ring 30 = some (.aload_n 0) := by decide +kernel
theorem aX4_ring_31 : mm_at mX4_ring 31 = some (.iload_n 1) := by decide +kernel
theorem aX4_ring_32 : mm_at mX4_ring 32 = some (.lload_n 2) := by decide +kernel
theorem aX4_ring_33 : mm_at mX4_ring 33 = some (.invokevirtual 143) := by decide +kernel
theorem aX4_ring_36 : mm_at mX4_ring 36 = some (.aload_n 0) := by decide +kernel
theorem aX4_ring_37 : mm_at mX4_ring 37 = some (.invokevirtual 178) := by decide +kernel
theorem aX4_ring_40 : mm_at mX4_ring 40 = some (.ireturn) := by decide +kernel
theorem aX4_drain_0 : mm_at mX4_drain 0 = some (.aload_n 0) := by decide +kernel
theorem aX4_drain_1 : mm_at mX4_drain 1 = some (.getfield 74) := by decide +kernel
theorem aX4_drain_4 : mm_at mX4_drain 4 = some (.bipush 9) := by decide +kernel
theorem aX4_drain_6 : mm_at mX4_drain 6 = some (.iaload) := by decide +kernel
theorem aX4_drain_7 : mm_at mX4_drain 7 = some (.sipush 2000) := by decide +kernel
theorem aX4_drain_10 : mm_at mX4_drain 10 = some (.if_icmp .lt 6) := by decide +kernel
theorem aX4_drain_13 : mm_at mX4_drain 13 = some (.bipush (-3)) := by decide +kernel
theorem aX4_drain_15 : mm_at mX4_drain 15 = some (.ireturn) := by decide +kernel
theorem aX4_drain_16 : mm_at mX4_drain 16 = some (.aload_n 0) := by decide +kernel
theorem aX4_drain_17 : mm_at mX4_drain 17 = some (.invokevirtual 175) := by decide +kernel
theorem aX4_drain_20 : mm_at mX4_drain 20 = some (.aload_n 0) := by decide +kernel
theorem aX4_drain_21 : mm_at mX4_drain 21 = some (.invokevirtual 178) := by decide +kernel
theorem aX4_drain_24 : mm_at mX4_drain 24 = some (.ireturn) := by decide +kernel
theorem aX4_act_0 : mm_at mX4_act 0 = some (.aload_n 0) := by decide +kernel
theorem aX4_act_1 : mm_at mX4_act 1 = some (.iload_n 1) := by decide +kernel
theorem aX4_act_2 : mm_at mX4_act 2 = some (.invokevirtual 106) := by decide +kernel
theorem aX4_act_5 : mm_at mX4_act 5 = some (.ifCond .ne 6) := by decide +kernel
theorem aX4_act_8 : mm_at mX4_act 8 = some (.bipush (-2)) := by decide +kernel
theorem aX4_act_10 : mm_at mX4_act 10 = some (.ireturn) := by decide +kernel
theorem aX4_act_11 : mm_at mX4_act 11 = some (.aload_n 0) := by decide +kernel
theorem aX4_act_12 : mm_at mX4_act 12 = some (.getfield 74) := by decide +kernel
theorem aX4_act_15 : mm_at mX4_act 15 = some (.bipush 9) := by decide +kernel
theorem aX4_act_17 : mm_at mX4_act 17 = some (.iaload) := by decide +kernel
theorem aX4_act_18 : mm_at mX4_act 18 = some (.sipush 2000) := by decide +kernel
theorem aX4_act_21 : mm_at mX4_act 21 = some (.if_icmp .lt 6) := by decide +kernel
theorem aX4_act_24 : mm_at mX4_act 24 = some (.bipush (-3)) := by decide +kernel
theorem aX4_act_26 : mm_at mX4_act 26 = some (.ireturn) := by decide +kernel
theorem aX4_act_27 : mm_at mX4_act 27 = some (.aload_n 0) := by decide +kernel
theorem aX4_act_28 : mm_at mX4_act 28 = some (.invokevirtual 175) := by decide +kernel
theorem aX4_act_31 : mm_at mX4_act 31 = some (.aload_n 0) := by decide +kernel
theorem aX4_act_32 : mm_at mX4_act 32 = some (.aload_n 0) := by decide +kernel
theorem aX4_act_33 : mm_at mX4_act 33 = some (.getfield 47) := by decide +kernel
theorem aX4_act_36 : mm_at mX4_act 36 = some (.iload_n 1) := by decide +kernel
theorem aX4_act_37 : mm_at mX4_act 37 = some (.iaload) := by decide +kernel
theorem aX4_act_38 : mm_at mX4_act 38 = some (.lload_n 2) := by decide +kernel
theorem aX4_act_39 : mm_at mX4_act 39 = some (.invokevirtual 157) := by decide +kernel
theorem aX4_act_42 : mm_at mX4_act 42 = some (.aload_n 0) := by decide +kernel
theorem aX4_act_43 : mm_at mX4_act 43 = some (.invokevirtual 178) := by decide +kernel
theorem aX4_act_46 : mm_at mX4_act 46 = some (.ireturn) := by decide +kernel
theorem aX4_get_0 : mm_at mX4_get 0 = some (.iload_n 1) := by decide +kernel
theorem aX4_get_1 : mm_at mX4_get 1 = some (.invokestatic 93) := by decide +kernel
theorem aX4_get_4 : mm_at mX4_get 4 = some (.ifCond .eq 12) := by decide +kernel
theorem aX4_get_7 : mm_at mX4_get 7 = some (.aload_n 0) := by decide +kernel
theorem aX4_get_8 : mm_at mX4_get 8 = some (.getfield 7) := by decide +kernel
theorem aX4_get_11 : mm_at mX4_get 11 = some (.iload_n 1) := by decide +kernel
theorem aX4_get_12 : mm_at mX4_get 12 = some (.laload) := by decide +kernel
theorem aX4_get_13 : mm_at mX4_get 13 = some (.goto 4) := by decide +kernel
theorem aX4_get_16 : mm_at mX4_get 16 = some (.lconst 0) := by decide +kernel
theorem aX4_get_17 : mm_at mX4_get 17 = some (.lreturn) := by decide +kernel
theorem aX4_line_0 : mm_at mX4_line 0 = some (.iload_n 1) := by decide +kernel
theorem aX4_line_1 : mm_at mX4_line 1 = some (.invokestatic 97) := by decide +kernel
theorem aX4_line_4 : mm_at mX4_line 4 = some (.ifCond .ne 6) := by decide +kernel
theorem aX4_line_7 : mm_at mX4_line 7 = some (.bipush (-2)) := by decide +kernel
theorem aX4_line_9 : mm_at mX4_line 9 = some (.ireturn) := by decide +kernel
theorem aX4_line_10 : mm_at mX4_line 10 = some (.iload_n 2) := by decide +kernel
theorem aX4_line_11 : mm_at mX4_line 11 = some (.i2l) := by decide +kernel
theorem aX4_line_12 : mm_at mX4_line 12 = some (.lconst 0) := by decide +kernel
theorem aX4_line_13 : mm_at mX4_line 13 = some (.aload_n 0) := by decide +kernel
theorem aX4_line_14 : mm_at mX4_line 14 = some (.getfield 20) := by decide +kernel
theorem aX4_line_17 : mm_at mX4_line 17 = some (.iload_n 1) := by decide +kernel
theorem aX4_line_18 : mm_at mX4_line 18 = some (.iaload) := by decide +kernel
theorem aX4_line_19 : mm_at mX4_line 19 = some (.iconst 1) := by decide +kernel
theorem aX4_line_20 : mm_at mX4_line 20 = some (.isub) := by decide +kernel
theorem aX4_line_21 : mm_at mX4_line 21 = some (.i2l) := by decide +kernel
theorem aX4_line_22 : mm_at mX4_line 22 = some (.invokestatic 85) := by decide +kernel
theorem aX4_line_25 : mm_at mX4_line 25 = some (.ifCond .eq 17) := by decide +kernel
theorem aX4_line_28 : mm_at mX4_line 28 = some (.aload_n 0) := by decide +kernel
theorem aX4_line_29 : mm_at mX4_line 29 = some (.getfield 17) := by decide +kernel
theorem aX4_line_32 : mm_at mX4_line 32 = some (.bipush 12) := by decide +kernel
theorem aX4_line_34 : mm_at mX4_line 34 = some (.iload_n 1) := by decide +kernel
theorem aX4_line_35 : mm_at mX4_line 35 = some (.imul) := by decide +kernel
theorem aX4_line_36 : mm_at mX4_line 36 = some (.iload_n 2) := by decide +kernel
theorem aX4_line_37 : mm_at mX4_line 37 = some (.iadd) := by decide +kernel
theorem aX4_line_38 : mm_at mX4_line 38 = some (.iaload) := by decide +kernel
theorem aX4_line_39 : mm_at mX4_line 39 = some (.goto 4) := by decide +kernel
theorem aX4_line_42 : mm_at mX4_line 42 = some (.iconst (-1)) := by decide +kernel
theorem aX4_line_43 : mm_at mX4_line 43 = some (.ireturn) := by decide +kernel
theorem aX4_queued_0 : mm_at mX4_queued 0 = some (.iload_n 1) := by decide +kernel
theorem aX4_queued_1 : mm_at mX4_queued 1 = some (.i2l) := by decide +kernel
theorem aX4_queued_2 : mm_at mX4_queued 2 = some (.lconst 0) := by decide +kernel
theorem aX4_queued_3 : mm_at mX4_queued 3 = some (.aload_n 0) := by decide +kernel
theorem aX4_queued_4 : mm_at mX4_queued 4 = some (.getfield 147) := by decide +kernel
theorem aX4_queued_7 : mm_at mX4_queued 7 = some (.iconst 1) := by decide +kernel
theorem aX4_queued_8 : mm_at mX4_queued 8 = some (.isub) := by decide +kernel
theorem aX4_queued_9 : mm_at mX4_queued 9 = some (.i2l) := by decide +kernel
theorem aX4_queued_10 : mm_at mX4_queued 10 = some (.invokestatic 85) := by decide +kernel
theorem aX4_queued_13 : mm_at mX4_queued 13 = some (.ifCond .eq 12) := by decide +kernel
theorem aX4_queued_16 : mm_at mX4_queued 16 = some (.aload_n 0) := by decide +kernel
theorem aX4_queued_17 : mm_at mX4_queued 17 = some (.getfield 50) := by decide +kernel
theorem aX4_queued_20 : mm_at mX4_queued 20 = some (.iload_n 1) := by decide +kernel
theorem aX4_queued_21 : mm_at mX4_queued 21 = some (.iaload) := by decide +kernel
theorem aX4_queued_22 : mm_at mX4_queued 22 = some (.goto 4) := by decide +kernel
theorem aX4_queued_25 : mm_at mX4_queued 25 = some (.iconst (-1)) := by decide +kernel
theorem aX4_queued_26 : mm_at mX4_queued 26 = some (.ireturn) := by decide +kernel
theorem aX4_count_0 : mm_at mX4_count 0 = some (.iload_n 1) := by decide +kernel
theorem aX4_count_1 : mm_at mX4_count 1 = some (.i2l) := by decide +kernel
theorem aX4_count_2 : mm_at mX4_count 2 = some (.lconst 0) := by decide +kernel
theorem aX4_count_3 : mm_at mX4_count 3 = some (.ldc2_w 182) := by decide +kernel
theorem aX4_count_6 : mm_at mX4_count 6 = some (.invokestatic 85) := by decide +kernel
theorem aX4_count_9 : mm_at mX4_count 9 = some (.ifCond .ne 6) := by decide +kernel
theorem aX4_count_12 : mm_at mX4_count 12 = some (.bipush (-2)) := by decide +kernel
theorem aX4_count_14 : mm_at mX4_count 14 = some (.ireturn) := by decide +kernel
theorem aX4_count_15 : mm_at mX4_count 15 = some (.iload_n 1) := by decide +kernel
theorem aX4_count_16 : mm_at mX4_count 16 = some (.bipush 7) := by decide +kernel
theorem aX4_count_18 : mm_at mX4_count 18 = some (.if_icmp .ne 10) := by decide +kernel
theorem aX4_count_21 : mm_at mX4_count 21 = some (.aload_n 0) := by decide +kernel
theorem aX4_count_22 : mm_at mX4_count 22 = some (.getfield 147) := by decide +kernel
theorem aX4_count_25 : mm_at mX4_count 25 = some (.goto 9) := by decide +kernel
theorem aX4_count_28 : mm_at mX4_count 28 = some (.aload_n 0) := by decide +kernel
theorem aX4_count_29 : mm_at mX4_count 29 = some (.getfield 74) := by decide +kernel
theorem aX4_count_32 : mm_at mX4_count 32 = some (.iload_n 1) := by decide +kernel
theorem aX4_count_33 : mm_at mX4_count 33 = some (.iaload) := by decide +kernel
theorem aX4_count_34 : mm_at mX4_count 34 = some (.ireturn) := by decide +kernel
theorem aX4_done_0 : mm_at mX4_done 0 = some (.aload_n 0) := by decide +kernel
theorem aX4_done_1 : mm_at mX4_done 1 = some (.iload_n 1) := by decide +kernel
theorem aX4_done_2 : mm_at mX4_done 2 = some (.invokevirtual 106) := by decide +kernel
theorem aX4_done_5 : mm_at mX4_done 5 = some (.ifCond .eq 12) := by decide +kernel
theorem aX4_done_8 : mm_at mX4_done 8 = some (.aload_n 0) := by decide +kernel
theorem aX4_done_9 : mm_at mX4_done 9 = some (.getfield 44) := by decide +kernel
theorem aX4_done_12 : mm_at mX4_done 12 = some (.iload_n 1) := by decide +kernel
theorem aX4_done_13 : mm_at mX4_done 13 = some (.iaload) := by decide +kernel
theorem aX4_done_14 : mm_at mX4_done 14 = some (.goto 5) := by decide +kernel
theorem aX4_done_17 : mm_at mX4_done 17 = some (.bipush (-2)) := by decide +kernel
theorem aX4_done_19 : mm_at mX4_done 19 = some (.ireturn) := by decide +kernel
theorem aL_law_0 : mm_at mL_law 0 = some (.new 7) := by decide +kernel
theorem aL_law_3 : mm_at mL_law 3 = some (.dup) := by decide +kernel
theorem aL_law_4 : mm_at mL_law 4 = some (.invokespecial 9) := by decide +kernel
theorem aL_law_7 : mm_at mL_law 7 = some (.astore_n 1) := by decide +kernel
theorem aL_law_8 : mm_at mL_law 8 = some (.new 10) := by decide +kernel
theorem aL_law_11 : mm_at mL_law 11 = some (.dup) := by decide +kernel
theorem aL_law_12 : mm_at mL_law 12 = some (.invokespecial 12) := by decide +kernel
theorem aL_law_15 : mm_at mL_law 15 = some (.astore_n 2) := by decide +kernel
theorem aL_law_16 : mm_at mL_law 16 = some (.iconst 0) := by decide +kernel
theorem aL_law_17 : mm_at mL_law 17 = some (.istore_n 3) := by decide +kernel
theorem aL_law_18 : mm_at mL_law 18 = some (.iload_n 3) := by decide +kernel
theorem aL_law_19 : mm_at mL_law 19 = some (.aload_n 0) := by decide +kernel
theorem aL_law_20 : mm_at mL_law 20 = some (.arraylength) := by decide +kernel
theorem aL_law_21 : mm_at mL_law 21 = some (.iconst 4) := by decide +kernel
theorem aL_law_22 : mm_at mL_law 22 = some (.isub) := by decide +kernel
theorem aL_law_23 : mm_at mL_law 23 = some (.if_icmp .gt 617) := by decide +kernel
theorem aL_law_26 : mm_at mL_law 26 = some (.aload_n 0) := by decide +kernel
theorem aL_law_27 : mm_at mL_law 27 = some (.iload_n 3) := by decide +kernel
theorem aL_law_28 : mm_at mL_law 28 = some (.iaload) := by decide +kernel
theorem aL_law_29 : mm_at mL_law 29 = some (.bipush 15) := by decide +kernel
theorem aL_law_31 : mm_at mL_law 31 = some (.iand) := by decide +kernel
theorem aL_law_32 : mm_at mL_law 32 = some (.tableswitch 602 0 14 #[76, 139, 172, 215, 248, 281, 304, 337, 400, 413, 476, 500, 533, 556, 579]) := by decide +kernel
theorem aL_law_108 : mm_at mL_law 108 = some (.aload_n 1) := by decide +kernel
theorem aL_law_109 : mm_at mL_law 109 = some (.aload_n 0) := by decide +kernel
theorem aL_law_110 : mm_at mL_law 110 = some (.iload_n 3) := by decide +kernel
theorem aL_law_111 : mm_at mL_law 111 = some (.iconst 1) := by decide +kernel
theorem aL_law_112 : mm_at mL_law 112 = some (.iadd) := by decide +kernel
theorem aL_law_113 : mm_at mL_law 113 = some (.iaload) := by decide +kernel
theorem aL_law_114 : mm_at mL_law 114 = some (.aload_n 0) := by decide +kernel
theorem aL_law_115 : mm_at mL_law 115 = some (.iload_n 3) := by decide +kernel
theorem aL_law_116 : mm_at mL_law 116 = some (.iconst 2) := by decide +kernel
theorem aL_law_117 : mm_at mL_law 117 = some (.iadd) := by decide +kernel
theorem aL_law_118 : mm_at mL_law 118 = some (.iaload) := by decide +kernel
theorem aL_law_119 : mm_at mL_law 119 = some (.i2l) := by decide +kernel
theorem aL_law_120 : mm_at mL_law 120 = some (.bipush 32) := by decide +kernel
theorem aL_law_122 : mm_at mL_law 122 = some (.lshl) := by decide +kernel
theorem aL_law_123 : mm_at mL_law 123 = some (.aload_n 0) := by decide +kernel
theorem aL_law_124 : mm_at mL_law 124 = some (.iload_n 3) := by decide +kernel
theorem aL_law_125 : mm_at mL_law 125 = some (.iconst 3) := by decide +kernel
theorem aL_law_126 : mm_at mL_law 126 = some (.iadd) := by decide +kernel
theorem aL_law_127 : mm_at mL_law 127 = some (.iaload) := by decide +kernel
theorem aL_law_128 : mm_at mL_law 128 = some (.i2l) := by decide +kernel
theorem aL_law_129 : mm_at mL_law 129 = some (.ldc2_w 13) := by decide +kernel
theorem aL_law_132 : mm_at mL_law 132 = some (.land) := by decide +kernel
theorem aL_law_133 : mm_at mL_law 133 = some (.lor) := by decide +kernel
theorem aL_law_134 : mm_at mL_law 134 = some (.invokevirtual 15) := by decide +kernel
theorem aL_law_137 : mm_at mL_law 137 = some (.aload_n 2) := by decide +kernel
theorem aL_law_138 : mm_at mL_law 138 = some (.aload_n 0) := by decide +kernel
theorem aL_law_139 : mm_at mL_law 139 = some (.iload_n 3) := by decide +kernel
theorem aL_law_140 : mm_at mL_law 140 = some (.iconst 1) := by decide +kernel
theorem aL_law_141 : mm_at mL_law 141 = some (.iadd) := by decide +kernel
theorem aL_law_142 : mm_at mL_law 142 = some (.iaload) := by decide +kernel
theorem aL_law_143 : mm_at mL_law 143 = some (.aload_n 0) := by decide +kernel
theorem aL_law_144 : mm_at mL_law 144 = some (.iload_n 3) := by decide +kernel
theorem aL_law_145 : mm_at mL_law 145 = some (.iconst 2) := by decide +kernel
theorem aL_law_146 : mm_at mL_law 146 = some (.iadd) := by decide +kernel
theorem aL_law_147 : mm_at mL_law 147 = some (.iaload) := by decide +kernel
theorem aL_law_148 : mm_at mL_law 148 = some (.i2l) := by decide +kernel
theorem aL_law_149 : mm_at mL_law 149 = some (.bipush 32) := by decide +kernel
theorem aL_law_151 : mm_at mL_law 151 = some (.lshl) := by decide +kernel
theorem aL_law_152 : mm_at mL_law 152 = some (.aload_n 0) := by decide +kernel
theorem aL_law_153 : mm_at mL_law 153 = some (.iload_n 3) := by decide +kernel
theorem aL_law_154 : mm_at mL_law 154 = some (.iconst 3) := by decide +kernel
theorem aL_law_155 : mm_at mL_law 155 = some (.iadd) := by decide +kernel
theorem aL_law_156 : mm_at mL_law 156 = some (.iaload) := by decide +kernel
theorem aL_law_157 : mm_at mL_law 157 = some (.i2l) := by decide +kernel
theorem aL_law_158 : mm_at mL_law 158 = some (.ldc2_w 13) := by decide +kernel
theorem aL_law_161 : mm_at mL_law 161 = some (.land) := by decide +kernel
theorem aL_law_162 : mm_at mL_law 162 = some (.lor) := by decide +kernel
theorem aL_law_163 : mm_at mL_law 163 = some (.invokevirtual 19) := by decide +kernel
theorem aL_law_166 : mm_at mL_law 166 = some (.if_icmp .eq 468) := by decide +kernel
theorem aL_law_169 : mm_at mL_law 169 = some (.iconst 0) := by decide +kernel
theorem aL_law_170 : mm_at mL_law 170 = some (.ireturn) := by decide +kernel
theorem aL_law_171 : mm_at mL_law 171 = some (.aload_n 1) := by decide +kernel
theorem aL_law_172 : mm_at mL_law 172 = some (.aload_n 0) := by decide +kernel
theorem aL_law_173 : mm_at mL_law 173 = some (.iload_n 3) := by decide +kernel
theorem aL_law_174 : mm_at mL_law 174 = some (.iconst 1) := by decide +kernel
theorem aL_law_175 : mm_at mL_law 175 = some (.iadd) := by decide +kernel
theorem aL_law_176 : mm_at mL_law 176 = some (.iaload) := by decide +kernel
theorem aL_law_177 : mm_at mL_law 177 = some (.aload_n 0) := by decide +kernel
theorem aL_law_178 : mm_at mL_law 178 = some (.iload_n 3) := by decide +kernel
theorem aL_law_179 : mm_at mL_law 179 = some (.iconst 2) := by decide +kernel
theorem aL_law_180 : mm_at mL_law 180 = some (.iadd) := by decide +kernel
theorem aL_law_181 : mm_at mL_law 181 = some (.iaload) := by decide +kernel
theorem aL_law_182 : mm_at mL_law 182 = some (.invokevirtual 20) := by decide +kernel
theorem aL_law_185 : mm_at mL_law 185 = some (.aload_n 2) := by decide +kernel
theorem aL_law_186 : mm_at mL_law 186 = some (.aload_n 0) := by decide +kernel
theorem aL_law_187 : mm_at mL_law 187 = some (.iload_n 3) := by decide +kernel
theorem aL_law_188 : mm_at mL_law 188 = some (.iconst 1) := by decide +kernel
theorem aL_law_189 : mm_at mL_law 189 = some (.iadd) := by decide +kernel
theorem aL_law_190 : mm_at mL_law 190 = some (.iaload) := by decide +kernel
theorem aL_law_191 : mm_at mL_law 191 = some (.aload_n 0) := by decide +kernel
theorem aL_law_192 : mm_at mL_law 192 = some (.iload_n 3) := by decide +kernel
theorem aL_law_193 : mm_at mL_law 193 = some (.iconst 2) := by decide +kernel
theorem aL_law_194 : mm_at mL_law 194 = some (.iadd) := by decide +kernel
theorem aL_law_195 : mm_at mL_law 195 = some (.iaload) := by decide +kernel
theorem aL_law_196 : mm_at mL_law 196 = some (.invokevirtual 24) := by decide +kernel
theorem aL_law_199 : mm_at mL_law 199 = some (.if_icmp .eq 435) := by decide +kernel
theorem aL_law_202 : mm_at mL_law 202 = some (.iconst 0) := by decide +kernel
theorem aL_law_203 : mm_at mL_law 203 = some (.ireturn) := by decide +kernel
theorem aL_law_204 : mm_at mL_law 204 = some (.aload_n 1) := by decide +kernel
theorem aL_law_205 : mm_at mL_law 205 = some (.aload_n 0) := by decide +kernel
theorem aL_law_206 : mm_at mL_law 206 = some (.iload_n 3) := by decide +kernel
theorem aL_law_207 : mm_at mL_law 207 = some (.iconst 1) := by decide +kernel
theorem aL_law_208 : mm_at mL_law 208 = some (.iadd) := by decide +kernel
theorem aL_law_209 : mm_at mL_law 209 = some (.iaload) := by decide +kernel
theorem aL_law_210 : mm_at mL_law 210 = some (.aload_n 0) := by decide +kernel
theorem aL_law_211 : mm_at mL_law 211 = some (.iload_n 3) := by decide +kernel
theorem aL_law_212 : mm_at mL_law 212 = some (.iconst 2) := by decide +kernel
theorem aL_law_213 : mm_at mL_law 213 = some (.iadd) := by decide +kernel
theorem aL_law_214 : mm_at mL_law 214 = some (.iaload) := by decide +kernel
theorem aL_law_215 : mm_at mL_law 215 = some (.aload_n 0) := by decide +kernel
theorem aL_law_216 : mm_at mL_law 216 = some (.iload_n 3) := by decide +kernel
theorem aL_law_217 : mm_at mL_law 217 = some (.iconst 3) := by decide +kernel
theorem aL_law_218 : mm_at mL_law 218 = some (.iadd) := by decide +kernel
theorem aL_law_219 : mm_at mL_law 219 = some (.iaload) := by decide +kernel
theorem aL_law_220 : mm_at mL_law 220 = some (.invokevirtual 25) := by decide +kernel
theorem aL_law_223 : mm_at mL_law 223 = some (.aload_n 2) := by decide +kernel
theorem aL_law_224 : mm_at mL_law 224 = some (.aload_n 0) := by decide +kernel
theorem aL_law_225 : mm_at mL_law 225 = some (.iload_n 3) := by decide +kernel
theorem aL_law_226 : mm_at mL_law 226 = some (.iconst 1) := by decide +kernel
theorem aL_law_227 : mm_at mL_law 227 = some (.iadd) := by decide +kernel
theorem aL_law_228 : mm_at mL_law 228 = some (.iaload) := by decide +kernel
theorem aL_law_229 : mm_at mL_law 229 = some (.aload_n 0) := by decide +kernel
theorem aL_law_230 : mm_at mL_law 230 = some (.iload_n 3) := by decide +kernel
theorem aL_law_231 : mm_at mL_law 231 = some (.iconst 2) := by decide +kernel
theorem aL_law_232 : mm_at mL_law 232 = some (.iadd) := by decide +kernel
theorem aL_law_233 : mm_at mL_law 233 = some (.iaload) := by decide +kernel
theorem aL_law_234 : mm_at mL_law 234 = some (.aload_n 0) := by decide +kernel
theorem aL_law_235 : mm_at mL_law 235 = some (.iload_n 3) := by decide +kernel
theorem aL_law_236 : mm_at mL_law 236 = some (.iconst 3) := by decide +kernel
theorem aL_law_237 : mm_at mL_law 237 = some (.iadd) := by decide +kernel
theorem aL_law_238 : mm_at mL_law 238 = some (.iaload) := by decide +kernel
theorem aL_law_239 : mm_at mL_law 239 = some (.invokevirtual 29) := by decide +kernel
theorem aL_law_242 : mm_at mL_law 242 = some (.if_icmp .eq 392) := by decide +kernel
theorem aL_law_245 : mm_at mL_law 245 = some (.iconst 0) := by decide +kernel
theorem aL_law_246 : mm_at mL_law 246 = some (.ireturn) := by decide +kernel
theorem aL_law_247 : mm_at mL_law 247 = some (.aload_n 1) := by decide +kernel
theorem aL_law_248 : mm_at mL_law 248 = some (.aload_n 0) := by decide +kernel
theorem aL_law_249 : mm_at mL_law 249 = some (.iload_n 3) := by decide +kernel
theorem aL_law_250 : mm_at mL_law 250 = some (.iconst 1) := by decide +kernel
theorem aL_law_251 : mm_at mL_law 251 = some (.iadd) := by decide +kernel
theorem aL_law_252 : mm_at mL_law 252 = some (.iaload) := by decide +kernel
theorem aL_law_253 : mm_at mL_law 253 = some (.aload_n 0) := by decide +kernel
theorem aL_law_254 : mm_at mL_law 254 = some (.iload_n 3) := by decide +kernel
theorem aL_law_255 : mm_at mL_law 255 = some (.iconst 2) := by decide +kernel
theorem aL_law_256 : mm_at mL_law 256 = some (.iadd) := by decide +kernel
theorem aL_law_257 : mm_at mL_law 257 = some (.iaload) := by decide +kernel
theorem aL_law_258 : mm_at mL_law 258 = some (.invokevirtual 30) := by decide +kernel
theorem aL_law_261 : mm_at mL_law 261 = some (.aload_n 2) := by decide +kernel
theorem aL_law_262 : mm_at mL_law 262 = some (.aload_n 0) := by decide +kernel
theorem aL_law_263 : mm_at mL_law 263 = some (.iload_n 3) := by decide +kernel
theorem aL_law_264 : mm_at mL_law 264 = some (.iconst 1) := by decide +kernel
theorem aL_law_265 : mm_at mL_law 265 = some (.iadd) := by decide +kernel
theorem aL_law_266 : mm_at mL_law 266 = some (.iaload) := by decide +kernel
theorem aL_law_267 : mm_at mL_law 267 = some (.aload_n 0) := by decide +kernel
theorem aL_law_268 : mm_at mL_law 268 = some (.iload_n 3) := by decide +kernel
theorem aL_law_269 : mm_at mL_law 269 = some (.iconst 2) := by decide +kernel
theorem aL_law_270 : mm_at mL_law 270 = some (.iadd) := by decide +kernel
theorem aL_law_271 : mm_at mL_law 271 = some (.iaload) := by decide +kernel
theorem aL_law_272 : mm_at mL_law 272 = some (.invokevirtual 33) := by decide +kernel
theorem aL_law_275 : mm_at mL_law 275 = some (.if_icmp .eq 359) := by decide +kernel
theorem aL_law_278 : mm_at mL_law 278 = some (.iconst 0) := by decide +kernel
theorem aL_law_279 : mm_at mL_law 279 = some (.ireturn) := by decide +kernel
theorem aL_law_280 : mm_at mL_law 280 = some (.aload_n 1) := by decide +kernel
theorem aL_law_281 : mm_at mL_law 281 = some (.aload_n 0) := by decide +kernel
theorem aL_law_282 : mm_at mL_law 282 = some (.iload_n 3) := by decide +kernel
theorem aL_law_283 : mm_at mL_law 283 = some (.iconst 1) := by decide +kernel
theorem aL_law_284 : mm_at mL_law 284 = some (.iadd) := by decide +kernel
theorem aL_law_285 : mm_at mL_law 285 = some (.iaload) := by decide +kernel
theorem aL_law_286 : mm_at mL_law 286 = some (.aload_n 0) := by decide +kernel
theorem aL_law_287 : mm_at mL_law 287 = some (.iload_n 3) := by decide +kernel
theorem aL_law_288 : mm_at mL_law 288 = some (.iconst 2) := by decide +kernel
theorem aL_law_289 : mm_at mL_law 289 = some (.iadd) := by decide +kernel
theorem aL_law_290 : mm_at mL_law 290 = some (.iaload) := by decide +kernel
theorem aL_law_291 : mm_at mL_law 291 = some (.invokevirtual 34) := by decide +kernel
theorem aL_law_294 : mm_at mL_law 294 = some (.aload_n 2) := by decide +kernel
theorem aL_law_295 : mm_at mL_law 295 = some (.aload_n 0) := by decide +kernel
theorem aL_law_296 : mm_at mL_law 296 = some (.iload_n 3) := by decide +kernel
theorem aL_law_297 : mm_at mL_law 297 = some (.iconst 1) := by decide +kernel
theorem aL_law_298 : mm_at mL_law 298 = some (.iadd) := by decide +kernel
theorem aL_law_299 : mm_at mL_law 299 = some (.iaload) := by decide +kernel
theorem aL_law_300 : mm_at mL_law 300 = some (.aload_n 0) := by decide +kernel
theorem aL_law_301 : mm_at mL_law 301 = some (.iload_n 3) := by decide +kernel
theorem aL_law_302 : mm_at mL_law 302 = some (.iconst 2) := by decide +kernel
theorem aL_law_303 : mm_at mL_law 303 = some (.iadd) := by decide +kernel
theorem aL_law_304 : mm_at mL_law 304 = some (.iaload) := by decide +kernel
theorem aL_law_305 : mm_at mL_law 305 = some (.invokevirtual 37) := by decide +kernel
theorem aL_law_308 : mm_at mL_law 308 = some (.if_icmp .eq 326) := by decide +kernel
theorem aL_law_311 : mm_at mL_law 311 = some (.iconst 0) := by decide +kernel
theorem aL_law_312 : mm_at mL_law 312 = some (.ireturn) := by decide +kernel
theorem aL_law_313 : mm_at mL_law 313 = some (.aload_n 1) := by decide +kernel
theorem aL_law_314 : mm_at mL_law 314 = some (.aload_n 0) := by decide +kernel
theorem aL_law_315 : mm_at mL_law 315 = some (.iload_n 3) := by decide +kernel
theorem aL_law_316 : mm_at mL_law 316 = some (.iconst 1) := by decide +kernel
theorem aL_law_317 : mm_at mL_law 317 = some (.iadd) := by decide +kernel
theorem aL_law_318 : mm_at mL_law 318 = some (.iaload) := by decide +kernel
theorem aL_law_319 : mm_at mL_law 319 = some (.invokevirtual 38) := by decide +kernel
theorem aL_law_322 : mm_at mL_law 322 = some (.aload_n 2) := by decide +kernel
theorem aL_law_323 : mm_at mL_law 323 = some (.aload_n 0) := by decide +kernel
theorem aL_law_324 : mm_at mL_law 324 = some (.iload_n 3) := by decide +kernel
theorem aL_law_325 : mm_at mL_law 325 = some (.iconst 1) := by decide +kernel
theorem aL_law_326 : mm_at mL_law 326 = some (.iadd) := by decide +kernel
theorem aL_law_327 : mm_at mL_law 327 = some (.iaload) := by decide +kernel
theorem aL_law_328 : mm_at mL_law 328 = some (.invokevirtual 42) := by decide +kernel
theorem aL_law_331 : mm_at mL_law 331 = some (.if_icmp .eq 303) := by decide +kernel
theorem aL_law_334 : mm_at mL_law 334 = some (.iconst 0) := by decide +kernel
theorem aL_law_335 : mm_at mL_law 335 = some (.ireturn) := by decide +kernel
theorem aL_law_336 : mm_at mL_law 336 = some (.aload_n 1) := by decide +kernel
theorem aL_law_337 : mm_at mL_law 337 = some (.aload_n 0) := by decide +kernel
theorem aL_law_338 : mm_at mL_law 338 = some (.iload_n 3) := by decide +kernel
theorem aL_law_339 : mm_at mL_law 339 = some (.iconst 1) := by decide +kernel
theorem aL_law_340 : mm_at mL_law 340 = some (.iadd) := by decide +kernel
theorem aL_law_341 : mm_at mL_law 341 = some (.iaload) := by decide +kernel
theorem aL_law_342 : mm_at mL_law 342 = some (.aload_n 0) := by decide +kernel
theorem aL_law_343 : mm_at mL_law 343 = some (.iload_n 3) := by decide +kernel
theorem aL_law_344 : mm_at mL_law 344 = some (.iconst 2) := by decide +kernel
theorem aL_law_345 : mm_at mL_law 345 = some (.iadd) := by decide +kernel
theorem aL_law_346 : mm_at mL_law 346 = some (.iaload) := by decide +kernel
theorem aL_law_347 : mm_at mL_law 347 = some (.invokevirtual 43) := by decide +kernel
theorem aL_law_350 : mm_at mL_law 350 = some (.aload_n 2) := by decide +kernel
theorem aL_law_351 : mm_at mL_law 351 = some (.aload_n 0) := by decide +kernel
theorem aL_law_352 : mm_at mL_law 352 = some (.iload_n 3) := by decide +kernel
theorem aL_law_353 : mm_at mL_law 353 = some (.iconst 1) := by decide +kernel
theorem aL_law_354 : mm_at mL_law 354 = some (.iadd) := by decide +kernel
theorem aL_law_355 : mm_at mL_law 355 = some (.iaload) := by decide +kernel
theorem aL_law_356 : mm_at mL_law 356 = some (.aload_n 0) := by decide +kernel
theorem aL_law_357 : mm_at mL_law 357 = some (.iload_n 3) := by decide +kernel
theorem aL_law_358 : mm_at mL_law 358 = some (.iconst 2) := by decide +kernel
theorem aL_law_359 : mm_at mL_law 359 = some (.iadd) := by decide +kernel
theorem aL_law_360 : mm_at mL_law 360 = some (.iaload) := by decide +kernel
theorem aL_law_361 : mm_at mL_law 361 = some (.invokevirtual 46) := by decide +kernel
theorem aL_law_364 : mm_at mL_law 364 = some (.if_icmp .eq 270) := by decide +kernel
theorem aL_law_367 : mm_at mL_law 367 = some (.iconst 0) := by decide +kernel
theorem aL_law_368 : mm_at mL_law 368 = some (.ireturn) := by decide +kernel
theorem aL_law_369 : mm_at mL_law 369 = some (.aload_n 1) := by decide +kernel
theorem aL_law_370 : mm_at mL_law 370 = some (.aload_n 0) := by decide +kernel
theorem aL_law_371 : mm_at mL_law 371 = some (.iload_n 3) := by decide +kernel
theorem aL_law_372 : mm_at mL_law 372 = some (.iconst 1) := by decide +kernel
theorem aL_law_373 : mm_at mL_law 373 = some (.iadd) := by decide +kernel
theorem aL_law_374 : mm_at mL_law 374 = some (.iaload) := by decide +kernel
theorem aL_law_375 : mm_at mL_law 375 = some (.aload_n 0) := by decide +kernel
theorem aL_law_376 : mm_at mL_law 376 = some (.iload_n 3) := by decide +kernel
theorem aL_law_377 : mm_at mL_law 377 = some (.iconst 2) := by decide +kernel
theorem aL_law_378 : mm_at mL_law 378 = some (.iadd) := by decide +kernel
theorem aL_law_379 : mm_at mL_law 379 = some (.iaload) := by decide +kernel
theorem aL_law_380 : mm_at mL_law 380 = some (.i2l) := by decide +kernel
theorem aL_law_381 : mm_at mL_law 381 = some (.bipush 32) := by decide +kernel
theorem aL_law_383 : mm_at mL_law 383 = some (.lshl) := by decide +kernel
theorem aL_law_384 : mm_at mL_law 384 = some (.aload_n 0) := by decide +kernel
theorem aL_law_385 : mm_at mL_law 385 = some (.iload_n 3) := by decide +kernel
theorem aL_law_386 : mm_at mL_law 386 = some (.iconst 3) := by decide +kernel
theorem aL_law_387 : mm_at mL_law 387 = some (.iadd) := by decide +kernel
theorem aL_law_388 : mm_at mL_law 388 = some (.iaload) := by decide +kernel
theorem aL_law_389 : mm_at mL_law 389 = some (.i2l) := by decide +kernel
theorem aL_law_390 : mm_at mL_law 390 = some (.ldc2_w 13) := by decide +kernel
theorem aL_law_393 : mm_at mL_law 393 = some (.land) := by decide +kernel
theorem aL_law_394 : mm_at mL_law 394 = some (.lor) := by decide +kernel
theorem aL_law_395 : mm_at mL_law 395 = some (.invokevirtual 47) := by decide +kernel
theorem aL_law_398 : mm_at mL_law 398 = some (.aload_n 2) := by decide +kernel
theorem aL_law_399 : mm_at mL_law 399 = some (.aload_n 0) := by decide +kernel
theorem aL_law_400 : mm_at mL_law 400 = some (.iload_n 3) := by decide +kernel
theorem aL_law_401 : mm_at mL_law 401 = some (.iconst 1) := by decide +kernel
theorem aL_law_402 : mm_at mL_law 402 = some (.iadd) := by decide +kernel
theorem aL_law_403 : mm_at mL_law 403 = some (.iaload) := by decide +kernel
theorem aL_law_404 : mm_at mL_law 404 = some (.aload_n 0) := by decide +kernel
theorem aL_law_405 : mm_at mL_law 405 = some (.iload_n 3) := by decide +kernel
theorem aL_law_406 : mm_at mL_law 406 = some (.iconst 2) := by decide +kernel
theorem aL_law_407 : mm_at mL_law 407 = some (.iadd) := by decide +kernel
theorem aL_law_408 : mm_at mL_law 408 = some (.iaload) := by decide +kernel
theorem aL_law_409 : mm_at mL_law 409 = some (.i2l) := by decide +kernel
theorem aL_law_410 : mm_at mL_law 410 = some (.bipush 32) := by decide +kernel
theorem aL_law_412 : mm_at mL_law 412 = some (.lshl) := by decide +kernel
theorem aL_law_413 : mm_at mL_law 413 = some (.aload_n 0) := by decide +kernel
theorem aL_law_414 : mm_at mL_law 414 = some (.iload_n 3) := by decide +kernel
theorem aL_law_415 : mm_at mL_law 415 = some (.iconst 3) := by decide +kernel
theorem aL_law_416 : mm_at mL_law 416 = some (.iadd) := by decide +kernel
theorem aL_law_417 : mm_at mL_law 417 = some (.iaload) := by decide +kernel
theorem aL_law_418 : mm_at mL_law 418 = some (.i2l) := by decide +kernel
theorem aL_law_419 : mm_at mL_law 419 = some (.ldc2_w 13) := by decide +kernel
theorem aL_law_422 : mm_at mL_law 422 = some (.land) := by decide +kernel
theorem aL_law_423 : mm_at mL_law 423 = some (.lor) := by decide +kernel
theorem aL_law_424 : mm_at mL_law 424 = some (.invokevirtual 50) := by decide +kernel
theorem aL_law_427 : mm_at mL_law 427 = some (.if_icmp .eq 207) := by decide +kernel
theorem aL_law_430 : mm_at mL_law 430 = some (.iconst 0) := by decide +kernel
theorem aL_law_431 : mm_at mL_law 431 = some (.ireturn) := by decide +kernel
theorem aL_law_432 : mm_at mL_law 432 = some (.aload_n 1) := by decide +kernel
theorem aL_law_433 : mm_at mL_law 433 = some (.invokevirtual 51) := by decide +kernel
theorem aL_law_436 : mm_at mL_law 436 = some (.aload_n 2) := by decide +kernel
theorem aL_law_437 : mm_at mL_law 437 = some (.invokevirtual 55) := by decide +kernel
theorem aL_law_440 : mm_at mL_law 440 = some (.if_icmp .eq 194) := by decide +kernel
theorem aL_law_443 : mm_at mL_law 443 = some (.iconst 0) := by decide +kernel
theorem aL_law_444 : mm_at mL_law 444 = some (.ireturn) := by decide +kernel
theorem aL_law_445 : mm_at mL_law 445 = some (.aload_n 1) := by decide +kernel
theorem aL_law_446 : mm_at mL_law 446 = some (.aload_n 0) := by decide +kernel
theorem aL_law_447 : mm_at mL_law 447 = some (.iload_n 3) := by decide +kernel
theorem aL_law_448 : mm_at mL_law 448 = some (.iconst 1) := by decide +kernel
theorem aL_law_449 : mm_at mL_law 449 = some (.iadd) := by decide +kernel
theorem aL_law_450 : mm_at mL_law 450 = some (.iaload) := by decide +kernel
theorem aL_law_451 : mm_at mL_law 451 = some (.aload_n 0) := by decide +kernel
theorem aL_law_452 : mm_at mL_law 452 = some (.iload_n 3) := by decide +kernel
theorem aL_law_453 : mm_at mL_law 453 = some (.iconst 2) := by decide +kernel
theorem aL_law_454 : mm_at mL_law 454 = some (.iadd) := by decide +kernel
theorem aL_law_455 : mm_at mL_law 455 = some (.iaload) := by decide +kernel
theorem aL_law_456 : mm_at mL_law 456 = some (.i2l) := by decide +kernel
theorem aL_law_457 : mm_at mL_law 457 = some (.bipush 32) := by decide +kernel
theorem aL_law_459 : mm_at mL_law 459 = some (.lshl) := by decide +kernel
theorem aL_law_460 : mm_at mL_law 460 = some (.aload_n 0) := by decide +kernel
theorem aL_law_461 : mm_at mL_law 461 = some (.iload_n 3) := by decide +kernel
theorem aL_law_462 : mm_at mL_law 462 = some (.iconst 3) := by decide +kernel
theorem aL_law_463 : mm_at mL_law 463 = some (.iadd) := by decide +kernel
theorem aL_law_464 : mm_at mL_law 464 = some (.iaload) := by decide +kernel
theorem aL_law_465 : mm_at mL_law 465 = some (.i2l) := by decide +kernel
theorem aL_law_466 : mm_at mL_law 466 = some (.ldc2_w 13) := by decide +kernel
theorem aL_law_469 : mm_at mL_law 469 = some (.land) := by decide +kernel
theorem aL_law_470 : mm_at mL_law 470 = some (.lor) := by decide +kernel
theorem aL_law_471 : mm_at mL_law 471 = some (.invokevirtual 56) := by decide +kernel
theorem aL_law_474 : mm_at mL_law 474 = some (.aload_n 2) := by decide +kernel
theorem aL_law_475 : mm_at mL_law 475 = some (.aload_n 0) := by decide +kernel
theorem aL_law_476 : mm_at mL_law 476 = some (.iload_n 3) := by decide +kernel
theorem aL_law_477 : mm_at mL_law 477 = some (.iconst 1) := by decide +kernel
theorem aL_law_478 : mm_at mL_law 478 = some (.iadd) := by decide +kernel
theorem aL_law_479 : mm_at mL_law 479 = some (.iaload) := by decide +kernel
theorem aL_law_480 : mm_at mL_law 480 = some (.aload_n 0) := by decide +kernel
theorem aL_law_481 : mm_at mL_law 481 = some (.iload_n 3) := by decide +kernel
theorem aL_law_482 : mm_at mL_law 482 = some (.iconst 2) := by decide +kernel
theorem aL_law_483 : mm_at mL_law 483 = some (.iadd) := by decide +kernel
theorem aL_law_484 : mm_at mL_law 484 = some (.iaload) := by decide +kernel
theorem aL_law_485 : mm_at mL_law 485 = some (.i2l) := by decide +kernel
theorem aL_law_486 : mm_at mL_law 486 = some (.bipush 32) := by decide +kernel
theorem aL_law_488 : mm_at mL_law 488 = some (.lshl) := by decide +kernel
theorem aL_law_489 : mm_at mL_law 489 = some (.aload_n 0) := by decide +kernel
theorem aL_law_490 : mm_at mL_law 490 = some (.iload_n 3) := by decide +kernel
theorem aL_law_491 : mm_at mL_law 491 = some (.iconst 3) := by decide +kernel
theorem aL_law_492 : mm_at mL_law 492 = some (.iadd) := by decide +kernel
theorem aL_law_493 : mm_at mL_law 493 = some (.iaload) := by decide +kernel
theorem aL_law_494 : mm_at mL_law 494 = some (.i2l) := by decide +kernel
theorem aL_law_495 : mm_at mL_law 495 = some (.ldc2_w 13) := by decide +kernel
theorem aL_law_498 : mm_at mL_law 498 = some (.land) := by decide +kernel
theorem aL_law_499 : mm_at mL_law 499 = some (.lor) := by decide +kernel
theorem aL_law_500 : mm_at mL_law 500 = some (.invokevirtual 59) := by decide +kernel
theorem aL_law_503 : mm_at mL_law 503 = some (.if_icmp .eq 131) := by decide +kernel
theorem aL_law_506 : mm_at mL_law 506 = some (.iconst 0) := by decide +kernel
theorem aL_law_507 : mm_at mL_law 507 = some (.ireturn) := by decide +kernel
theorem aL_law_508 : mm_at mL_law 508 = some (.aload_n 1) := by decide +kernel
theorem aL_law_509 : mm_at mL_law 509 = some (.aload_n 0) := by decide +kernel
theorem aL_law_510 : mm_at mL_law 510 = some (.iload_n 3) := by decide +kernel
theorem aL_law_511 : mm_at mL_law 511 = some (.iconst 1) := by decide +kernel
theorem aL_law_512 : mm_at mL_law 512 = some (.iadd) := by decide +kernel
theorem aL_law_513 : mm_at mL_law 513 = some (.iaload) := by decide +kernel
theorem aL_law_514 : mm_at mL_law 514 = some (.invokevirtual 60) := by decide +kernel
theorem aL_law_517 : mm_at mL_law 517 = some (.aload_n 2) := by decide +kernel
theorem aL_law_518 : mm_at mL_law 518 = some (.aload_n 0) := by decide +kernel
theorem aL_law_519 : mm_at mL_law 519 = some (.iload_n 3) := by decide +kernel
theorem aL_law_520 : mm_at mL_law 520 = some (.iconst 1) := by decide +kernel
theorem aL_law_521 : mm_at mL_law 521 = some (.iadd) := by decide +kernel
theorem aL_law_522 : mm_at mL_law 522 = some (.iaload) := by decide +kernel
theorem aL_law_523 : mm_at mL_law 523 = some (.invokevirtual 64) := by decide +kernel
theorem aL_law_526 : mm_at mL_law 526 = some (.lcmp) := by decide +kernel
theorem aL_law_527 : mm_at mL_law 527 = some (.ifCond .eq 107) := by decide +kernel
theorem aL_law_530 : mm_at mL_law 530 = some (.iconst 0) := by decide +kernel
theorem aL_law_531 : mm_at mL_law 531 = some (.ireturn) := by decide +kernel
theorem aL_law_532 : mm_at mL_law 532 = some (.aload_n 1) := by decide +kernel
theorem aL_law_533 : mm_at mL_law 533 = some (.aload_n 0) := by decide +kernel
theorem aL_law_534 : mm_at mL_law 534 = some (.iload_n 3) := by decide +kernel
theorem aL_law_535 : mm_at mL_law 535 = some (.iconst 1) := by decide +kernel
theorem aL_law_536 : mm_at mL_law 536 = some (.iadd) := by decide +kernel
theorem aL_law_537 : mm_at mL_law 537 = some (.iaload) := by decide +kernel
theorem aL_law_538 : mm_at mL_law 538 = some (.aload_n 0) := by decide +kernel
theorem aL_law_539 : mm_at mL_law 539 = some (.iload_n 3) := by decide +kernel
theorem aL_law_540 : mm_at mL_law 540 = some (.iconst 2) := by decide +kernel
theorem aL_law_541 : mm_at mL_law 541 = some (.iadd) := by decide +kernel
theorem aL_law_542 : mm_at mL_law 542 = some (.iaload) := by decide +kernel
theorem aL_law_543 : mm_at mL_law 543 = some (.invokevirtual 65) := by decide +kernel
theorem aL_law_546 : mm_at mL_law 546 = some (.aload_n 2) := by decide +kernel
theorem aL_law_547 : mm_at mL_law 547 = some (.aload_n 0) := by decide +kernel
theorem aL_law_548 : mm_at mL_law 548 = some (.iload_n 3) := by decide +kernel
theorem aL_law_549 : mm_at mL_law 549 = some (.iconst 1) := by decide +kernel
theorem aL_law_550 : mm_at mL_law 550 = some (.iadd) := by decide +kernel
theorem aL_law_551 : mm_at mL_law 551 = some (.iaload) := by decide +kernel
theorem aL_law_552 : mm_at mL_law 552 = some (.aload_n 0) := by decide +kernel
theorem aL_law_553 : mm_at mL_law 553 = some (.iload_n 3) := by decide +kernel
theorem aL_law_554 : mm_at mL_law 554 = some (.iconst 2) := by decide +kernel
theorem aL_law_555 : mm_at mL_law 555 = some (.iadd) := by decide +kernel
theorem aL_law_556 : mm_at mL_law 556 = some (.iaload) := by decide +kernel
theorem aL_law_557 : mm_at mL_law 557 = some (.invokevirtual 68) := by decide +kernel
theorem aL_law_560 : mm_at mL_law 560 = some (.if_icmp .eq 74) := by decide +kernel
theorem aL_law_563 : mm_at mL_law 563 = some (.iconst 0) := by decide +kernel
theorem aL_law_564 : mm_at mL_law 564 = some (.ireturn) := by decide +kernel
theorem aL_law_565 : mm_at mL_law 565 = some (.aload_n 1) := by decide +kernel
theorem aL_law_566 : mm_at mL_law 566 = some (.aload_n 0) := by decide +kernel
theorem aL_law_567 : mm_at mL_law 567 = some (.iload_n 3) := by decide +kernel
theorem aL_law_568 : mm_at mL_law 568 = some (.iconst 1) := by decide +kernel
theorem aL_law_569 : mm_at mL_law 569 = some (.iadd) := by decide +kernel
theorem aL_law_570 : mm_at mL_law 570 = some (.iaload) := by decide +kernel
theorem aL_law_571 : mm_at mL_law 571 = some (.invokevirtual 69) := by decide +kernel
theorem aL_law_574 : mm_at mL_law 574 = some (.aload_n 2) := by decide +kernel
theorem aL_law_575 : mm_at mL_law 575 = some (.aload_n 0) := by decide +kernel
theorem aL_law_576 : mm_at mL_law 576 = some (.iload_n 3) := by decide +kernel
theorem aL_law_577 : mm_at mL_law 577 = some (.iconst 1) := by decide +kernel
theorem aL_law_578 : mm_at mL_law 578 = some (.iadd) := by decide +kernel
theorem aL_law_579 : mm_at mL_law 579 = some (.iaload) := by decide +kernel
theorem aL_law_580 : mm_at mL_law 580 = some (.invokevirtual 72) := by decide +kernel
theorem aL_law_583 : mm_at mL_law 583 = some (.if_icmp .eq 51) := by decide +kernel
theorem aL_law_586 : mm_at mL_law 586 = some (.iconst 0) := by decide +kernel
theorem aL_law_587 : mm_at mL_law 587 = some (.ireturn) := by decide +kernel
theorem aL_law_588 : mm_at mL_law 588 = some (.aload_n 1) := by decide +kernel
theorem aL_law_589 : mm_at mL_law 589 = some (.aload_n 0) := by decide +kernel
theorem aL_law_590 : mm_at mL_law 590 = some (.iload_n 3) := by decide +kernel
theorem aL_law_591 : mm_at mL_law 591 = some (.iconst 1) := by decide +kernel
theorem aL_law_592 : mm_at mL_law 592 = some (.iadd) := by decide +kernel
theorem aL_law_593 : mm_at mL_law 593 = some (.iaload) := by decide +kernel
theorem aL_law_594 : mm_at mL_law 594 = some (.invokevirtual 73) := by decide +kernel
theorem aL_law_597 : mm_at mL_law 597 = some (.aload_n 2) := by decide +kernel
theorem aL_law_598 : mm_at mL_law 598 = some (.aload_n 0) := by decide +kernel
theorem aL_law_599 : mm_at mL_law 599 = some (.iload_n 3) := by decide +kernel
theorem aL_law_600 : mm_at mL_law 600 = some (.iconst 1) := by decide +kernel
theorem aL_law_601 : mm_at mL_law 601 = some (.iadd) := by decide +kernel
theorem aL_law_602 : mm_at mL_law 602 = some (.iaload) := by decide +kernel
theorem aL_law_603 : mm_at mL_law 603 = some (.invokevirtual 76) := by decide +kernel
theorem aL_law_606 : mm_at mL_law 606 = some (.if_icmp .eq 28) := by decide +kernel
theorem aL_law_609 : mm_at mL_law 609 = some (.iconst 0) := by decide +kernel
theorem aL_law_610 : mm_at mL_law 610 = some (.ireturn) := by decide +kernel
theorem aL_law_611 : mm_at mL_law 611 = some (.aload_n 1) := by decide +kernel
theorem aL_law_612 : mm_at mL_law 612 = some (.aload_n 0) := by decide +kernel
theorem aL_law_613 : mm_at mL_law 613 = some (.iload_n 3) := by decide +kernel
theorem aL_law_614 : mm_at mL_law 614 = some (.iconst 1) := by decide +kernel
theorem aL_law_615 : mm_at mL_law 615 = some (.iadd) := by decide +kernel
theorem aL_law_616 : mm_at mL_law 616 = some (.iaload) := by decide +kernel
theorem aL_law_617 : mm_at mL_law 617 = some (.invokevirtual 77) := by decide +kernel
theorem aL_law_620 : mm_at mL_law 620 = some (.aload_n 2) := by decide +kernel
theorem aL_law_621 : mm_at mL_law 621 = some (.aload_n 0) := by decide +kernel
theorem aL_law_622 : mm_at mL_law 622 = some (.iload_n 3) := by decide +kernel
theorem aL_law_623 : mm_at mL_law 623 = some (.iconst 1) := by decide +kernel
theorem aL_law_624 : mm_at mL_law 624 = some (.iadd) := by decide +kernel
theorem aL_law_625 : mm_at mL_law 625 = some (.iaload) := by decide +kernel
theorem aL_law_626 : mm_at mL_law 626 = some (.invokevirtual 80) := by decide +kernel
theorem aL_law_629 : mm_at mL_law 629 = some (.if_icmp .eq 5) := by decide +kernel
theorem aL_law_632 : mm_at mL_law 632 = some (.iconst 0) := by decide +kernel
theorem aL_law_633 : mm_at mL_law 633 = some (.ireturn) := by decide +kernel
theorem aL_law_634 : mm_at mL_law 634 = some (.iinc 3 4) := by decide +kernel
theorem aL_law_637 : mm_at mL_law 637 = some (.goto (-619)) := by decide +kernel
theorem aL_law_640 : mm_at mL_law 640 = some (.iconst 1) := by decide +kernel
theorem aL_law_641 : mm_at mL_law 641 = some (.ireturn) := by decide +kernel
end
section
/-! branches, by what they ask -/
section MW
variable {sc : Option (List Int32)} {F pc : Nat} {M : mm_T} {ls : mm_L} {st r : List Value} {h : mm_H} {P : Option Value → mm_H → Prop}
theorem w_if_eq {off : Int} {x : Int32} {t q : Nat} (ha : mm_at M pc = some (.ifCond .eq off)) (ht : (pc : Int) + off = (t : Int)) (hq : pc + 3 = q) (kt : x = 0 → mW sc F M t ls r h P) (kf : ¬ x = 0 → mW sc F M q ls r h P) : mW sc F M pc ls (.int x :: r) h P := w_if ha ht hq (fun c => kt (of_decide_eq_true c)) (fun c => kf (of_decide_eq_false c))
theorem w_ic_eq {off : Int} {x y : Int32} {t q : Nat} (ha : mm_at M pc = some (.if_icmp .eq off)) (ht : (pc : Int) + off = (t : Int)) (hq : pc + 3 = q) (kt : x = y → mW sc F M t ls r h P) (kf : ¬ x = y → mW sc F M q ls r h P) : mW sc F M pc ls (.int y :: .int x :: r) h P := w_icmp ha ht hq (fun c => kt (of_decide_eq_true c)) (fun c => kf (of_decide_eq_false c))
theorem w_if_ne {off : Int} {x : Int32} {t q : Nat} (ha : mm_at M pc = some (.ifCond .ne off)) (ht : (pc : Int) + off = (t : Int)) (hq : pc + 3 = q) (kt : ¬ x = 0 → mW sc F M t ls r h P) (kf : x = 0 → mW sc F M q ls r h P) : mW sc F M pc ls (.int x :: r) h P := w_if ha ht hq (fun c => kt (of_decide_eq_true c)) (fun c => kf (Classical.not_not.mp (of_decide_eq_false c)))
theorem w_ic_ne {off : Int} {x y : Int32} {t q : Nat} (ha : mm_at M pc = some (.if_icmp .ne off)) (ht : (pc : Int) + off = (t : Int)) (hq : pc + 3 = q) (kt : ¬ x = y → mW sc F M t ls r h P) (kf : x = y → mW sc F M q ls r h P) : mW sc F M pc ls (.int y :: .int x :: r) h P := w_icmp ha ht hq (fun c => kt (of_decide_eq_true c)) (fun c => kf (Classical.not_not.mp (of_decide_eq_false c)))
theorem w_if_lt {off : Int} {x : Int32} {t q : Nat} (ha : mm_at M pc = some (.ifCond .lt off)) (ht : (pc : Int) + off = (t : Int)) (hq : pc + 3 = q) (kt : x < 0 → mW sc F M t ls r h P) (kf : ¬ x < 0 → mW sc F M q ls r h P) : mW sc F M pc ls (.int x :: r) h P := w_if ha ht hq (fun c => kt (of_decide_eq_true c)) (fun c => kf (of_decide_eq_false c))
theorem w_ic_lt {off : Int} {x y : Int32} {t q : Nat} (ha : mm_at M pc = some (.if_icmp .lt off)) (ht : (pc : Int) + off = (t : Int)) (hq : pc + 3 = q) (kt : x < y → mW sc F M t ls r h P) (kf : ¬ x < y → mW sc F M q ls r h P) : mW sc F M pc ls (.int y :: .int x :: r) h P := w_icmp ha ht hq (fun c => kt (of_decide_eq_true c)) (fun c => kf (of_decide_eq_false c))
theorem w_if_ge {off : Int} {x : Int32} {t q : Nat} (ha : mm_at M pc = some (.ifCond .ge off)) (ht : (pc : Int) + off = (t : Int)) (hq : pc + 3 = q) (kt : 0 ≤ x → mW sc F M t ls r h P) (kf : ¬ 0 ≤ x → mW sc F M q ls r h P) : mW sc F M pc ls (.int x :: r) h P := w_if ha ht hq (fun c => kt (of_decide_eq_true c)) (fun c => kf (of_decide_eq_false c))
theorem w_ic_ge {off : Int} {x y : Int32} {t q : Nat} (ha : mm_at M pc = some (.if_icmp .ge off)) (ht : (pc : Int) + off = (t : Int)) (hq : pc + 3 = q) (kt : y ≤ x → mW sc F M t ls r h P) (kf : ¬ y ≤ x → mW sc F M q ls r h P) : mW sc F M pc ls (.int y :: .int x :: r) h P := w_icmp ha ht hq (fun c => kt (of_decide_eq_true c)) (fun c => kf (of_decide_eq_false c))
theorem w_if_gt {off : Int} {x : Int32} {t q : Nat} (ha : mm_at M pc = some (.ifCond .gt off)) (ht : (pc : Int) + off = (t : Int)) (hq : pc + 3 = q) (kt : 0 < x → mW sc F M t ls r h P) (kf : ¬ 0 < x → mW sc F M q ls r h P) : mW sc F M pc ls (.int x :: r) h P := w_if ha ht hq (fun c => kt (of_decide_eq_true c)) (fun c => kf (of_decide_eq_false c))
theorem w_ic_gt {off : Int} {x y : Int32} {t q : Nat} (ha : mm_at M pc = some (.if_icmp .gt off)) (ht : (pc : Int) + off = (t : Int)) (hq : pc + 3 = q) (kt : y < x → mW sc F M t ls r h P) (kf : ¬ y < x → mW sc F M q ls r h P) : mW sc F M pc ls (.int y :: .int x :: r) h P := w_icmp ha ht hq (fun c => kt (of_decide_eq_true c)) (fun c => kf (of_decide_eq_false c))
theorem w_if_le {off : Int} {x : Int32} {t q : Nat} (ha : mm_at M pc = some (.ifCond .le off)) (ht : (pc : Int) + off = (t : Int)) (hq : pc + 3 = q) (kt : x ≤ 0 → mW sc F M t ls r h P) (kf : ¬ x ≤ 0 → mW sc F M q ls r h P) : mW sc F M pc ls (.int x :: r) h P := w_if ha ht hq (fun c => kt (of_decide_eq_true c)) (fun c => kf (of_decide_eq_false c))
theorem w_ic_le {off : Int} {x y : Int32} {t q : Nat} (ha : mm_at M pc = some (.if_icmp .le off)) (ht : (pc : Int) + off = (t : Int)) (hq : pc + 3 = q) (kt : x ≤ y → mW sc F M t ls r h P) (kf : ¬ x ≤ y → mW sc F M q ls r h P) : mW sc F M pc ls (.int y :: .int x :: r) h P := w_icmp ha ht hq (fun c => kt (of_decide_eq_true c)) (fun c => kf (of_decide_eq_false c))
end MW
/-- a truth value as an int -/
def bz (p : Prop) [Decidable p] : Int32 := if p then 1 else 0
theorem bz_1 {p : Prop} [Decidable p] (h : p) : bz p = 1 := if_pos h
theorem bz_0 {p : Prop} [Decidable p] (h : ¬ p) : bz p = 0 := if_neg h
theorem bz_or {p : Prop} [Decidable p] : bz p = 0 ∨ bz p = 1 := by by_cases h : p <;> simp [bz, h]
theorem bz_eq0 {p : Prop} [Decidable p] (h : bz p = 0) : ¬ p := fun q => by rw [bz_1 q] at h; exact absurd h (by decide)
theorem bz_ne0 {p : Prop} [Decidable p] (h : ¬ bz p = 0) : p := Classical.byContradiction fun q => h (bz_0 q)
theorem up_s (h : mm_H) (a : Nat) (c : mm_C) : (mm_up h a c).2.2 a = some c := if_pos rfl
theorem up_n {h : mm_H} {a b : Nat} {c : mm_C} (hn : ¬ b = a) : (mm_up h a c).2.2 b = h.2.2 b := if_neg hn
theorem nI_iff {a b : Nat} (ha : a < 2 ^ 31) (hb : b < 2 ^ 31) : nI a = nI b ↔ a = b := nI_eq ha hb
end
section
/-! a run needs of its locals no more than it names: fewer, or in another order -/
def Rl (L ls : mm_L) : Prop := ∀ q ∈ L, mm_lk ls q.1 = some q.2
theorem mm_lk_mem {L : mm_L} {i : Nat} {v : Value} (h : mm_lk L i = some v) : (i, v) ∈ L := by
  obtain ⟨q, hq, hv⟩ := Option.map_eq_some_iff.mp h
  have h1 : q.1 = i := by simpa using List.find?_some hq
  have h2 := List.mem_of_find?_eq_some hq
  have e : q = (i, v) := by rw [← h1, ← hv]
  rwa [e] at h2
theorem lk_flt {p : Nat × Value → Bool} {j : Nat} {w : Value} : ∀ {ls : mm_L}, mm_lk ls j = some w → p (j, w) = true → mm_lk (ls.filter p) j = some w
  | [], h, _ => by cases h
  | q :: ls, h, hp => by
    unfold mm_lk at h ⊢
    by_cases e : (q.1 == j) = true
    · rw [List.find?_cons_of_pos (p := fun q : Nat × Value => q.1 == j) e] at h
      have e1 : q.1 = j := by simpa using e
      have e2 : q.2 = w := Option.some.inj h
      have e3 : q = (j, w) := by rw [← e1, ← e2]
      rw [e3, List.filter_cons_of_pos hp, List.find?_cons_of_pos (by simp)]
      rfl
    · rw [List.find?_cons_of_neg (p := fun q : Nat × Value => q.1 == j) e] at h
      have ih := lk_flt (p := p) (ls := ls) (j := j) (w := w) h hp
      unfold mm_lk at ih
      by_cases hq : p q = true
      · rw [List.filter_cons_of_pos hq, List.find?_cons_of_neg (p := fun q : Nat × Value => q.1 == j) e]
        exact ih
      · rw [List.filter_cons_of_neg hq]
        exact ih
theorem lk_hd (ls : mm_L) (i : Nat) (v : Value) : mm_lk ((i, v) :: ls) i = some v := by
  unfold mm_lk
  rw [List.find?_cons_of_pos (by simp)]
  rfl
theorem lk_tl {ls : mm_L} {i j : Nat} {v : Value} (h : ¬ i = j) : mm_lk ((i, v) :: ls) j = mm_lk ls j := by
  unfold mm_lk
  rw [List.find?_cons_of_neg (by simpa using h)]
theorem Rl.st1 {L ls : mm_L} (h : Rl L ls) (i : Nat) (v : Value) : Rl (mm_st1 L i v) (mm_st1 ls i v) := by
  intro q hq
  unfold mm_st1 at hq ⊢
  rcases List.mem_cons.mp hq with rfl | hq
  · exact lk_hd _ _ _
  · obtain ⟨h1, h2⟩ := List.mem_filter.mp hq
    have hne : ¬ i = q.1 := fun e => by simp [e] at h2
    rw [lk_tl hne]
    exact lk_flt (h q h1) h2
theorem Rl.st2 {L ls : mm_L} (h : Rl L ls) (i : Nat) (v : Value) : Rl (mm_st2 L i v) (mm_st2 ls i v) := by
  intro q hq
  unfold mm_st2 at hq ⊢
  rcases List.mem_cons.mp hq with rfl | hq
  · exact lk_hd _ _ _
  · obtain ⟨h1, h2⟩ := List.mem_filter.mp hq
    have hne : ¬ i = q.1 := fun e => by simp [e] at h2
    rw [lk_tl hne]
    exact lk_flt (h q h1) h2
theorem Rl.lk {L ls : mm_L} (h : Rl L ls) {i : Nat} {v : Value} (hl : mm_lk L i = some v) : mm_lk ls i = some v := h _ (mm_lk_mem hl)
def mm_RlR (L ls : mm_L) (w u : mm_R) : Prop := match w, u with
  | .inl (a, L', b, c), .inl (a', ls', b', c') => a = a' ∧ b = b' ∧ c = c' ∧ Rl L' ls'
  | .inr z, .inr z' => z = z'
  | _, _ => False
theorem mm_ld_ls {L ls : mm_L} (h : Rl L ls) {ty pc i : Nat} {st : List Value} {hh : mm_H} {w : mm_R} (hx : mm_ld ty pc L st hh i = some w) : ∃ u, mm_ld ty pc ls st hh i = some u ∧ mm_RlR L ls w u := by
  unfold mm_ld at hx ⊢
  cases hl : mm_lk L i with
  | none => rw [hl] at hx; split at hx <;> rename_i heq <;> first | (cases heq; done) | cases hx
  | some v =>
    rw [h.lk hl]
    rw [hl] at hx
    split at hx
    all_goals first | (cases hx; done) | (rename_i heq; cases heq; cases hx; exact ⟨_, rfl, rfl, rfl, rfl, h⟩)
theorem mm_sto_ls {L ls : mm_L} (h : Rl L ls) {ty nL pc i : Nat} {st : List Value} {hh : mm_H} {w : mm_R} (hx : mm_sto ty nL pc L st hh i = some w) : ∃ u, mm_sto ty nL pc ls st hh i = some u ∧ mm_RlR L ls w u := by
  unfold mm_sto at hx ⊢
  split at hx
  all_goals first
    | (cases hx; done)
    | (split at hx
       · rename_i hc
         cases hx
         rw [if_pos hc]
         first | exact ⟨_, rfl, rfl, rfl, rfl, h.st1 _ _⟩ | exact ⟨_, rfl, rfl, rfl, rfl, h.st2 _ _⟩
       · cases hx)
/-- does it look at the locals? -/
def mm_loc (ins : Instr) : Bool := match ins with
  | .iload_n _ | .iload _ | .lload_n _ | .lload _ | .aload_n _ | .aload _ | .istore_n _ | .istore _ | .lstore_n _ | .lstore _ | .astore_n _ | .astore _ | .iinc _ _ => true
  | _ => false
def mm_rp (ls : mm_L) (w : mm_R) : mm_R := match w with
  | .inl (a, _, b, c) => .inl (a, ls, b, c)
  | .inr z => .inr z
theorem mm_go_fr (ls : mm_L) {pc : Nat} {off : Int} {st : List Value} {h : mm_H} : mm_go pc off ls st h = (mm_go pc off [] st h).map (mm_rp ls) := by
  unfold mm_go
  split <;> rfl
theorem mm_call_fr (ls : mm_L) {t : mm_T} {n : Nat} {st : List Value} : mm_call t n st = (mm_call t n st).map (mm_rp ls) := by
  unfold mm_call
  split <;> rfl
set_option maxHeartbeats 4000000 in
theorem mm_x_fr (ls : mm_L) {sc : Option (List Int32)} {F pc : Nat} {M : mm_T} {ins : Instr} {st : List Value} {h : mm_H} (hn : mm_loc ins = false) : mm_x sc F M ins pc ls st h = (mm_x sc F M ins pc [] st h).map (mm_rp ls) := by
  cases ins <;> first
    | (cases hn; done)
    | (simp only [mm_x]; exact mm_go_fr ls)
    | rfl
    | (simp only [mm_x]; (repeat' split) <;> first | rfl | exact mm_go_fr ls | exact mm_call_fr ls | simp_all)
set_option maxHeartbeats 4000000 in
theorem mm_x_ls {L ls : mm_L} (h : Rl L ls) {sc : Option (List Int32)} {F pc : Nat} {M : mm_T} {ins : Instr} {st : List Value} {hh : mm_H} {w : mm_R} (hx : mm_x sc F M ins pc L st hh = some w) : ∃ u, mm_x sc F M ins pc ls st hh = some u ∧ mm_RlR L ls w u := by
  by_cases hn : mm_loc ins = false
  · rw [mm_x_fr L hn] at hx
    rw [mm_x_fr ls hn]
    obtain ⟨w0, h0, rfl⟩ := Option.map_eq_some_iff.mp hx
    rw [h0]
    refine ⟨_, rfl, ?_⟩
    match w0 with
    | .inl (a, _, b, c) => exact ⟨rfl, rfl, rfl, h⟩
    | .inr z => exact rfl
  · cases ins with
    | iinc i n =>
      simp only [mm_x] at hx ⊢
      cases hl : mm_lk L i with
      | none => simp [hl] at hx
      | some v =>
        cases v <;> simp only [hl] at hx <;> first | (cases hx; done) | skip
        split at hx
        · rename_i hc
          cases hx
          simp only [h.lk hl]
          rw [if_pos hc]
          exact ⟨_, rfl, rfl, rfl, rfl, h.st1 _ _⟩
        · cases hx
    | _ => first
      | exact absurd rfl hn
      | exact mm_ld_ls h hx
      | exact mm_sto_ls h hx
theorem mm_run_ls : ∀ {n : Nat} {sc : Option (List Int32)} {F pc : Nat} {M : mm_T} {L ls : mm_L} {st : List Value} {h : mm_H} {q : Option Value × mm_H}, Rl L ls → mm_run n sc F M pc L st h = some q → mm_run n sc F M pc ls st h = some q := by
  intro n
  induction n with
  | zero => intro sc F pc M L ls st h q hl hx; cases hx
  | succ n ih =>
    intro sc F pc M L ls st h q hl hx
    unfold mm_run at hx ⊢
    cases hat : mm_at M pc with
    | none => rw [hat] at hx; cases hx
    | some ins =>
      rw [hat] at hx
      dsimp only at hx ⊢
      cases hq : mm_x sc F M ins pc L st h with
      | none => rw [hq] at hx; cases hx
      | some w =>
        rw [hq] at hx
        obtain ⟨u, hu, hR⟩ := mm_x_ls hl hq
        rw [hu]
        match w, u, hR, hx with
        | .inl (a, L', b, c), .inl (a', ls', b', c'), hR, hx =>
          obtain ⟨rfl, rfl, rfl, hl'⟩ := hR
          exact ih hl' hx
        | .inr (.inl (t, as, rest)), .inr z, hR, hx =>
          have e : z = .inl (t, as, rest) := hR.symm
          subst e
          dsimp only at hx ⊢
          cases F with
          | zero => cases hx
          | succ F' =>
            dsimp only at hx ⊢
            cases hc : mm_run n none F' t 0 (lv_args 0 as) [] h with
            | none => rw [hc] at hx; cases hx
            | some w =>
              rw [hc] at hx
              exact ih hl hx
        | .inr (.inr r), .inr z, hR, hx =>
          have e : z = .inr r := hR.symm
          subst e
          exact hx
        | .inl _, .inr _, hR, hx => exact hR.elim
        | .inr _, .inl _, hR, hx => exact hR.elim
theorem mW.ls {sc : Option (List Int32)} {F pc : Nat} {M : mm_T} {L ls : mm_L} {st : List Value} {h : mm_H} {P : Option Value → mm_H → Prop} (k : mW sc F M pc L st h P) (hl : Rl L ls) : mW sc F M pc ls st h P := by
  obtain ⟨n, r, h', a, b⟩ := k
  exact ⟨n, r, h', mm_run_ls hl a, b⟩
theorem Rl.nil {ls : mm_L} : Rl [] ls := fun q h => by cases h
theorem Rl.cons {L ls : mm_L} {i : Nat} {v : Value} (h : Rl L ls) (hv : mm_lk ls i = some v) : Rl ((i, v) :: L) ls := fun q hq => by
  rcases List.mem_cons.mp hq with rfl | hq
  · exact hv
  · exact h q hq
end
section
/-! A BELL: its object at b, its row at a; l its line, g what lies behind it in the row -/
def bl (h : mm_H) (b a : Nat) (l g : List Int32) (w : Int32) : Prop := h.2.2 b = some (1, [.ref a, .int (nI l.length), .int w]) ∧ h.2.2 a = some (5, (l ++ g).map Value.int) ∧ l.length + g.length = 12 ∧ ¬ a = 0 ∧ ¬ b = a
/-- the place of x in l, or -1 -/
def pls (l : List Int32) (x : Int32) : Int32 := if x ∈ l then nI (l.idxOf x) else -1
theorem pls_no {l : List Int32} {x : Int32} (h : x ∉ l) : pls l x = -1 := if_neg h
theorem pls_at {p q : List Int32} {x : Int32} (h : x ∉ p) : pls (p ++ x :: q) x = nI p.length := by
  unfold pls
  rw [if_pos (by simp), List.idxOf_append, if_neg h]
  simp
theorem ints_at {l : List Int32} {n : Nat} {x : Int32} (h : l[n]? = some x) : (l.map Value.int)[n]? = some (.int x) := by rw [List.getElem?_map, h]; rfl
theorem l_placeOf {F : Nat} {h : mm_H} {b a : Nat} {l g : List Int32} {w x : Int32} (hb : bl h b a l g w) : ∀ (q p : List Int32), l = p ++ q → x ∉ p → mW none F mX1_placeOf 2 [(2, .int (nI p.length)), (0, .ref b), (1, .int x)] [] h (fun r h' => r = some (.int (pls l x)) ∧ h = h') := by
  have hlen := hb.2.2.1
  intro q
  induction q with
  | nil =>
    intro p hl hx
    rw [List.append_nil] at hl
    refine w_iload_n (q := 3) aX1_placeOf_2 rfl rfl ?_
    refine w_aload_n (q := 4) aX1_placeOf_3 rfl rfl ?_
    refine w_get (q := 7) aX1_placeOf_4 f_1_19 (hb.1) rfl rfl ?_
    refine w_ic_ge (t := 28) (q := 10) aX1_placeOf_7 (by decide) rfl (fun c7 => ?_) (fun c7 => ?_)
    · refine w_iconst (v := -1) (q := 29) aX1_placeOf_28 rfl rfl ?_
      refine w_iret aX1_placeOf_29 rfl ?_
      exact ⟨by rw [pls_no (by rw [hl]; exact hx)], rfl⟩
    · exact absurd (by rw [hl]; exact nI_le (Nat.le_refl _) (by rw [hl] at hlen; omega)) c7
  | cons y q ih =>
    intro p hl hx
    have hpl : p.length < l.length := by rw [hl]; simp
    refine w_iload_n (q := 3) aX1_placeOf_2 rfl rfl ?_
    refine w_aload_n (q := 4) aX1_placeOf_3 rfl rfl ?_
    refine w_get (q := 7) aX1_placeOf_4 f_1_19 (hb.1) rfl rfl ?_
    refine w_ic_ge (t := 28) (q := 10) aX1_placeOf_7 (by decide) rfl (fun c7 => ?_) (fun c7 => ?_)
    · exact absurd c7 (nI_ge hpl (by omega))
    · refine w_aload_n (q := 11) aX1_placeOf_10 rfl rfl ?_
      refine w_get (q := 14) aX1_placeOf_11 f_1_9 (hb.1) rfl rfl ?_
      refine w_iload_n (q := 15) aX1_placeOf_14 rfl rfl ?_
      refine w_iald (q := 16) aX1_placeOf_15 (hb.2.2.2.1) (hb.2.1) (mm_ix_at (v := .int y) rfl (by omega) (ints_at (by rw [hl]; simp))) rfl ?_
      refine w_iload_n (q := 17) aX1_placeOf_16 rfl rfl ?_
      refine w_ic_ne (t := 22) (q := 20) aX1_placeOf_17 (by decide) rfl (fun c17 => ?_) (fun c17 => ?_)
      · refine w_iinc (q := 25) (ls' := [(2, _), (0, _), (1, _)]) aX1_placeOf_22 rfl rfl (by decide) rfl rfl ?_
        refine w_goto (t := 2) aX1_placeOf_25 (by decide) ?_
        have := ih (p ++ [y]) (by rw [hl]; simp) (by simp only [List.mem_append, List.mem_singleton]; exact fun z => z.elim hx (fun z => c17 z.symm))
        rw [List.length_append] at this
        rw [show nI p.length + Int32.ofInt 1 = nI (p.length + [y].length) from (nI_1 p.length)]
        exact this
      · refine w_iload_n (q := 21) aX1_placeOf_20 rfl rfl ?_
        refine w_iret aX1_placeOf_21 rfl ?_
        subst c17
        exact ⟨by rw [hl, pls_at hx], rfl⟩
theorem c_placeOf {F : Nat} {h : mm_H} {b a : Nat} {l g : List Int32} {w x : Int32} (hb : bl h b a l g w) : mW none F mX1_placeOf 0 [(0, .ref b), (1, .int x)] [] h (fun r h' => r = some (.int (pls l x)) ∧ h = h') := by
  refine w_iconst (v := 0) (q := 1) aX1_placeOf_0 rfl rfl ?_
  refine w_istore_n (q := 2) (ls' := [(2, _), (0, _), (1, _)]) aX1_placeOf_1 (by decide) rfl rfl ?_
  exact l_placeOf hb l [] rfl (by simp)
end
section
/-- only the cells that A names have changed, and nothing is new -/
def fr (A : Nat → Prop) (h h' : mm_H) : Prop := h'.1 = h.1 ∧ h'.2.1 = h.2.1 ∧ ∀ q, ¬ A q → h'.2.2 q = h.2.2 q
theorem fr.rf {A : Nat → Prop} {h : mm_H} : fr A h h := ⟨rfl, rfl, fun _ _ => rfl⟩
theorem fr.up {A : Nat → Prop} {h h' : mm_H} {a : Nat} {c : mm_C} (hf : fr A h h') (ha : A a) : fr A h (mm_up h' a c) := ⟨hf.1, hf.2.1, fun q hq => (up_n (fun e => hq (by rw [e]; exact ha))).trans (hf.2.2 q hq)⟩
theorem fr.tr {A : Nat → Prop} {h h1 h2 : mm_H} (h01 : fr A h h1) (h12 : fr A h1 h2) : fr A h h2 := ⟨h12.1.trans h01.1, h12.2.1.trans h01.2.1, fun q hq => (h12.2.2 q hq).trans (h01.2.2 q hq)⟩
theorem fr.mono {A A' : Nat → Prop} {h h1 : mm_H} (h01 : fr A h h1) (ha : ∀ q, A q → A' q) : fr A' h h1 := ⟨h01.1, h01.2.1, fun q hq => h01.2.2 q (fun z => hq (ha q z))⟩
theorem this_at {h : mm_H} {n k a : Nat} {st fs : List Value} (hs : st[n]? = some (.ref a)) (hc : h.2.2 a = some (k, fs)) : mm_this h n k st = true := by
  unfold mm_this
  rw [hs]
  dsimp only
  rw [hc]
  simp
theorem pls_m1 {l : List Int32} {x : Int32} (hl : l.length < 2 ^ 31) : pls l x = -1 ↔ x ∉ l := by
  unfold pls
  by_cases h : x ∈ l
  · rw [if_pos h]
    have h2 := List.idxOf_lt_length_iff.mpr h
    constructor
    · intro e
      have := nI_pos (n := l.idxOf x) (by omega)
      rw [e] at this
      exact absurd (by decide) this
    · exact fun z => absurd h z
  · rw [if_neg h]
    exact ⟨fun _ => h, fun _ => rfl⟩
theorem c_append {F : Nat} {h : mm_H} {b a : Nat} {l g : List Int32} {w x : Int32} (hb : bl h b a l g w) : mW none (F + 1) mX1_append 0 [(0, .ref b), (1, .int x)] [] h (fun r h' => (x ∈ l ∧ r = some (.int (-1)) ∧ h = h') ∨ (x ∉ l ∧ l.length = 12 ∧ r = some (.int (-3)) ∧ h = h') ∨ (x ∉ l ∧ l.length < 12 ∧ r = some (.int (nI l.length)) ∧ (∃ g', bl h' b a (l ++ [x]) g' w) ∧ fr (fun q => q = b ∨ q = a) h h')) := by
  have hlen := hb.2.2.1
  refine w_aload_n (q := 1) aX1_append_0 rfl rfl ?_
  refine w_iload_n (q := 2) aX1_append_1 rfl rfl ?_
  refine w_callV aX1_append_2 t_1_22 (this_at rfl hb.1) (rfl) (c_placeOf hb) (fun r2 h2 hp => ?_)
  obtain ⟨rfl, rfl⟩ := hp
  refine w_iconst (v := -1) (q := 6) aX1_append_5 rfl rfl ?_
  refine w_ic_eq (t := 11) (q := 9) aX1_append_6 (by decide) rfl (fun c6 => ?_) (fun c6 => ?_)
  · have hx := (pls_m1 (by omega)).mp c6
    refine w_aload_n (q := 12) aX1_append_11 rfl rfl ?_
    refine w_get (q := 15) aX1_append_12 f_1_19 (hb.1) rfl rfl ?_
    refine w_bipush (v := 12) (q := 17) aX1_append_15 rfl rfl ?_
    refine w_ic_lt (t := 23) (q := 20) aX1_append_17 (by decide) rfl (fun c17 => ?_) (fun c17 => ?_)
    · have hl12 : l.length < 12 := by
        rcases Nat.lt_or_ge l.length 12 with z | z
        · exact z
        · exact absurd c17 (nI_nlt (b := 12) z (by omega))
      obtain ⟨y, g', rfl⟩ : ∃ y g', g = y :: g' := by
        cases g with
        | nil => simp at hlen; omega
        | cons y g' => exact ⟨y, g', rfl⟩
      refine w_aload_n (q := 24) aX1_append_23 rfl rfl ?_
      refine w_get (q := 27) aX1_append_24 f_1_9 (hb.1) rfl rfl ?_
      refine w_aload_n (q := 28) aX1_append_27 rfl rfl ?_
      refine w_get (q := 31) aX1_append_28 f_1_19 (hb.1) rfl rfl ?_
      refine w_iload_n (q := 32) aX1_append_31 rfl rfl ?_
      refine w_iast (q := 33) (n := l.length) (vs' := ((l ++ [x]) ++ g').map Value.int) aX1_append_32 (hb.2.1) (rfl) (by simp) (by simp at hlen ⊢; omega) (by simp) rfl ?_
      refine w_aload_n (q := 34) aX1_append_33 rfl rfl ?_
      refine w_dup (q := 35) aX1_append_34 rfl rfl ?_
      refine w_get (q := 38) aX1_append_35 f_1_19 ((up_n hb.2.2.2.2).trans hb.1) rfl rfl ?_
      refine w_dup_x1 (q := 39) aX1_append_38 ⟨rfl, rfl⟩ rfl ?_
      refine w_iconst (v := 1) (q := 40) aX1_append_39 rfl rfl ?_
      refine w_iadd (q := 41) aX1_append_40 rfl ?_
      refine w_put (q := 44) (fs' := [_, _, _]) aX1_append_41 f_1_19 ((up_n hb.2.2.2.2).trans hb.1) (Nat.le_of_ble_eq_true rfl) rfl rfl (Or.inl rfl) rfl rfl ?_
      refine w_iret aX1_append_44 rfl ?_
      refine Or.inr (Or.inr ⟨hx, hl12, rfl, ⟨g', ?_, ?_, ?_, hb.2.2.2.1, hb.2.2.2.2⟩, ?_⟩)
      · rw [up_s, List.length_append]
        show some (1, [Value.ref a, .int (nI l.length + 1), .int w]) = _
        rw [nI_1]
        rfl
      · rw [up_n (fun z => hb.2.2.2.2 z.symm), up_s]
      · simp at hlen ⊢
        omega
      · exact (fr.rf.up (Or.inr rfl)).up (Or.inl rfl)
    · refine w_bipush (v := -3) (q := 22) aX1_append_20 rfl rfl ?_
      refine w_iret aX1_append_22 rfl ?_
      refine Or.inr (Or.inl ⟨hx, ?_, rfl, rfl⟩)
      rcases Nat.lt_or_ge l.length 12 with z | z
      · exact absurd (nI_lt (b := 12) z (by omega)) c17
      · omega
  · refine w_iconst (v := -1) (q := 10) aX1_append_9 rfl rfl ?_
    refine w_iret aX1_append_10 rfl ?_
    exact Or.inl ⟨Classical.byContradiction fun z => c6 ((pls_m1 (by omega)).mpr z), rfl, rfl⟩
end
section
theorem l_remove {F : Nat} {b a : Nat} {p g : List Int32} {w x hd : Int32} (ha : ¬ a = 0) (hba : ¬ b = a) : ∀ (q2 q1 : List Int32) (y : Int32) (h : mm_H), h.2.2 b = some (1, [.ref a, .int (nI (p.length + q1.length + q2.length)), .int w]) → h.2.2 a = some (5, ((p ++ q1) ++ y :: (q2 ++ g)).map Value.int) → p.length + q1.length + q2.length + 1 + g.length = 12 →
    mW none F mX1_remove 25 [(3, .int (nI (p.length + q1.length))), (2, .int hd), (0, .ref b), (1, .int x)] [] h (fun r h' => r = some (.int hd) ∧ (∃ y', bl h' b a ((p ++ q1) ++ q2) (y' :: g) w) ∧ fr (fun q => q = b ∨ q = a) h h') := by
  intro q2
  induction q2 with
  | nil =>
    intro q1 y h h1 h2 h3
    refine w_iload_n (q := 26) aX1_remove_25 rfl rfl ?_
    refine w_aload_n (q := 27) aX1_remove_26 rfl rfl ?_
    refine w_get (q := 30) aX1_remove_27 f_1_19 (h1) rfl rfl ?_
    refine w_ic_ge (t := 53) (q := 33) aX1_remove_30 (by decide) rfl (fun c30 => ?_) (fun c30 => ?_)
    · refine w_iload_n (q := 54) aX1_remove_53 rfl rfl ?_
      refine w_iret aX1_remove_54 rfl ?_
      refine ⟨rfl, ⟨y, ?_, ?_, ?_, ha, hba⟩, fr.rf⟩
      · rw [h1]
        simp
      · rw [h2]
        simp
      · simp at h3 ⊢ <;> omega
    · exact absurd (by simp) c30
  | cons z q2 ih =>
    intro q1 y h h1 h2 h3
    have hl3 : p.length + q1.length + q2.length + 2 + g.length = 12 := by simp at h3; omega
    refine w_iload_n (q := 26) aX1_remove_25 rfl rfl ?_
    refine w_aload_n (q := 27) aX1_remove_26 rfl rfl ?_
    refine w_get (q := 30) aX1_remove_27 f_1_19 (h1) rfl rfl ?_
    refine w_ic_ge (t := 53) (q := 33) aX1_remove_30 (by decide) rfl (fun c30 => ?_) (fun c30 => ?_)
    · exact absurd c30 (nI_ge (by simp <;> omega) (by simp <;> omega))
    · refine w_aload_n (q := 34) aX1_remove_33 rfl rfl ?_
      refine w_get (q := 37) aX1_remove_34 f_1_9 (h1) rfl rfl ?_
      refine w_iload_n (q := 38) aX1_remove_37 rfl rfl ?_
      refine w_aload_n (q := 39) aX1_remove_38 rfl rfl ?_
      refine w_get (q := 42) aX1_remove_39 f_1_9 (h1) rfl rfl ?_
      refine w_iload_n (q := 43) aX1_remove_42 rfl rfl ?_
      refine w_iconst (v := 1) (q := 44) aX1_remove_43 rfl rfl ?_
      refine w_iadd (q := 45) aX1_remove_44 rfl ?_
      refine w_iald (q := 46) aX1_remove_45 (ha) (h2) (mm_ix_at (n := p.length + q1.length + 1) (v := .int z) (nI_1 _) (by omega) (ints_at (by rw [List.getElem?_append_right (by simp)]; simp))) rfl ?_
      refine w_iast (q := 47) (n := p.length + q1.length) (vs' := ((p ++ (q1 ++ [z])) ++ z :: (q2 ++ g)).map Value.int) aX1_remove_46 (h2) (rfl) (by simp <;> omega) (by simp <;> omega) (by rw [← List.map_set]; congr 1; rw [List.set_append_right _ _ (by simp)]; simp) rfl ?_
      refine w_iinc (q := 50) (ls' := [(3, _), (2, _), (0, _), (1, _)]) aX1_remove_47 rfl rfl (by decide) rfl rfl ?_
      refine w_goto (t := 25) aX1_remove_50 (by decide) ?_
      have k := ih (q1 ++ [z]) z (mm_up h a (5, ((p ++ (q1 ++ [z])) ++ z :: (q2 ++ g)).map Value.int)) ((up_n hba).trans (by rw [h1]; simp only [List.length_append, List.length_cons, List.length_nil]; rw [show p.length + q1.length + (q2.length + 1) = p.length + (q1.length + (0 + 1)) + q2.length by omega])) (up_s _ _ _) (by simp <;> omega)
      rw [show nI (p.length + q1.length) + Int32.ofInt 1 = nI (p.length + (q1 ++ [z]).length) from by rw [List.length_append]; exact nI_1 _]
      refine k.imp (fun r h' hk => ⟨hk.1, ?_, (fr.rf.up (Or.inr rfl)).tr hk.2.2⟩)
      obtain ⟨y', hy⟩ := hk.2.1
      exact ⟨y', by simpa using hy⟩
theorem c_remove {F : Nat} {h : mm_H} {b a : Nat} {l g : List Int32} {w x : Int32} (hb : bl h b a l g w) : mW none (F + 1) mX1_remove 0 [(0, .ref b), (1, .int x)] [] h (fun r h' => r = some (.int (pls l x)) ∧ (∃ g', bl h' b a (l.erase x) g' w) ∧ fr (fun q => q = b ∨ q = a) h h') := by
  have hlen := hb.2.2.1
  refine w_aload_n (q := 1) aX1_remove_0 rfl rfl ?_
  refine w_iload_n (q := 2) aX1_remove_1 rfl rfl ?_
  refine w_callV aX1_remove_2 t_1_22 (this_at rfl hb.1) (rfl) (c_placeOf hb) (fun r2 h2 hp => ?_)
  obtain ⟨rfl, rfl⟩ := hp
  refine w_istore_n (q := 6) (ls' := [(2, _), (0, _), (1, _)]) aX1_remove_5 (by decide) rfl rfl ?_
  refine w_iload_n (q := 7) aX1_remove_6 rfl rfl ?_
  refine w_iconst (v := -1) (q := 8) aX1_remove_7 rfl rfl ?_
  refine w_ic_ne (t := 13) (q := 11) aX1_remove_8 (by decide) rfl (fun c8 => ?_) (fun c8 => ?_)
  · have hx : x ∈ l := Classical.byContradiction fun z => c8 (pls_no z)
    obtain ⟨p, q, rfl, hxp⟩ := List.eq_append_cons_of_mem hx
    have hlen2 : p.length + q.length + 1 + g.length = 12 := by simp at hlen; omega
    refine w_aload_n (q := 14) aX1_remove_13 rfl rfl ?_
    refine w_dup (q := 15) aX1_remove_14 rfl rfl ?_
    refine w_get (q := 18) aX1_remove_15 f_1_19 (hb.1) rfl rfl ?_
    refine w_iconst (v := 1) (q := 19) aX1_remove_18 rfl rfl ?_
    refine w_isub (q := 20) aX1_remove_19 rfl ?_
    refine w_put (q := 23) (fs' := [_, _, _]) aX1_remove_20 f_1_19 (hb.1) (Nat.le_of_ble_eq_true rfl) rfl rfl (Or.inl rfl) rfl rfl ?_
    refine w_iload_n (q := 24) aX1_remove_23 rfl rfl ?_
    refine w_istore_n (q := 25) (ls' := [(3, _), (2, _), (0, _), (1, _)]) aX1_remove_24 (by decide) rfl rfl ?_
    rw [pls_at hxp]
    have k := l_remove (F := F + 1) (p := p) (g := g) (w := w) (x := x) (hd := nI p.length) hb.2.2.2.1 hb.2.2.2.2 q [] x (mm_up h b (1, [.ref a, .int (nI (p ++ x :: q).length - 1), .int w])) (by rw [up_s]; simp only [List.length_append, List.length_cons, List.length_nil]; rw [show p.length + (q.length + 1) = (p.length + 0 + q.length) + 1 by omega, nI_pred]) ((up_n (fun z => hb.2.2.2.2 z.symm)).trans (by rw [hb.2.1]; simp)) (by simp <;> omega)
    refine k.imp (fun r h' hk => ⟨hk.1, ?_, (fr.rf.up (Or.inl rfl)).tr hk.2.2⟩)
    obtain ⟨y', hy⟩ := hk.2.1
    refine ⟨y' :: g, ?_⟩
    rw [List.erase_append_right _ hxp, List.erase_cons_head]
    simpa using hy
  · have hx := (pls_m1 (by omega)).mp c8
    refine w_iconst (v := -1) (q := 12) aX1_remove_11 rfl rfl ?_
    refine w_iret aX1_remove_12 rfl ?_
    refine ⟨by rw [c8], ⟨g, ?_⟩, fr.rf⟩
    rw [List.erase_of_not_mem hx]
    exact hb
theorem c_hearerAt {F : Nat} {h : mm_H} {b a : Nat} {l g : List Int32} {w x : Int32} (hb : bl h b a l g w) : mW none F mX1_hearerAt 0 [(0, .ref b), (1, .int x)] [] h (fun r h' => r = some (.int (if x < 0 then -1 else (l[x.toNatClampNeg]?).getD (-1))) ∧ h = h') := by
  have hlen := hb.2.2.1
  refine w_iload_n (q := 1) aX1_hearerAt_0 rfl rfl ?_
  refine w_if_lt (t := 21) (q := 4) aX1_hearerAt_1 (by decide) rfl (fun c1 => ?_) (fun c1 => ?_)
  · refine w_iconst (v := -1) (q := 22) aX1_hearerAt_21 rfl rfl ?_
    refine w_iret aX1_hearerAt_22 rfl ?_
    exact ⟨by rw [if_pos c1], rfl⟩
  · obtain ⟨j, hj, rfl⟩ := nI_of c1
    refine w_iload_n (q := 5) aX1_hearerAt_4 rfl rfl ?_
    refine w_aload_n (q := 6) aX1_hearerAt_5 rfl rfl ?_
    refine w_get (q := 9) aX1_hearerAt_6 f_1_19 (hb.1) rfl rfl ?_
    refine w_ic_ge (t := 21) (q := 12) aX1_hearerAt_9 (by decide) rfl (fun c9 => ?_) (fun c9 => ?_)
    · refine w_iconst (v := -1) (q := 22) aX1_hearerAt_21 rfl rfl ?_
      refine w_iret aX1_hearerAt_22 rfl ?_
      have : l.length ≤ j := (nI_leI (by omega) hj).mp c9
      refine ⟨?_, rfl⟩
      rw [if_neg c1, nI_clamp hj, List.getElem?_eq_none this]
      rfl
    · have hjl : j < l.length := by
        rcases Nat.lt_or_ge j l.length with z | z
        · exact z
        · exact absurd (nI_le z hj) c9
      refine w_aload_n (q := 13) aX1_hearerAt_12 rfl rfl ?_
      refine w_get (q := 16) aX1_hearerAt_13 f_1_9 (hb.1) rfl rfl ?_
      refine w_iload_n (q := 17) aX1_hearerAt_16 rfl rfl ?_
      refine w_iald (q := 18) aX1_hearerAt_17 (hb.2.2.2.1) (hb.2.1) (mm_ix_at (n := j) (v := .int l[j]) rfl hj (ints_at (by rw [List.getElem?_append_left hjl]; exact List.getElem?_eq_getElem hjl))) rfl ?_
      refine w_goto (t := 22) aX1_hearerAt_18 (by decide) ?_
      refine w_iret aX1_hearerAt_22 rfl ?_
      refine ⟨?_, rfl⟩
      rw [if_neg c1, nI_clamp hj, List.getElem?_eq_getElem hjl]
      rfl
theorem l_copyLine {F : Nat} {b a rw9 : Nat} {l g : List Int32} {w : Int32} (hr0 : ¬ b = rw9) (hr1 : ¬ a = rw9) : ∀ (q p rr : List Int32) (h : mm_H), l = p ++ q → bl h b a l g w → q.length ≤ rr.length → p.length + rr.length = 12 → h.2.2 rw9 = some (5, (p ++ rr).map Value.int) →
    mW none F mX1_copyLine 2 [(2, .int (nI p.length)), (0, .ref b), (1, .ref rw9)] [] h (fun r h' => r = some (.int (nI l.length)) ∧ (∃ rr', l.length + rr'.length = 12 ∧ h'.2.2 rw9 = some (5, (l ++ rr').map Value.int)) ∧ fr (fun q => q = rw9) h h') := by
  intro q
  induction q with
  | nil =>
    intro p rr h hl hb h1 h2 h3
    rw [List.append_nil] at hl
    have hlen := hb.2.2.1
    refine w_iload_n (q := 3) aX1_copyLine_2 rfl rfl ?_
    refine w_aload_n (q := 4) aX1_copyLine_3 rfl rfl ?_
    refine w_get (q := 7) aX1_copyLine_4 f_1_19 (hb.1) rfl rfl ?_
    refine w_ic_ge (t := 25) (q := 10) aX1_copyLine_7 (by decide) rfl (fun c7 => ?_) (fun c7 => ?_)
    · refine w_aload_n (q := 26) aX1_copyLine_25 rfl rfl ?_
      refine w_get (q := 29) aX1_copyLine_26 f_1_19 (hb.1) rfl rfl ?_
      refine w_iret aX1_copyLine_29 rfl ?_
      exact ⟨rfl, ⟨rr, by rw [hl]; exact h2, by rw [hl]; exact h3⟩, fr.rf⟩
    · exact absurd (by rw [hl]; exact nI_le (Nat.le_refl _) (by rw [hl] at hlen; omega)) c7
  | cons y q ih =>
    intro p rr h hl hb h1 h2 h3
    have hlen := hb.2.2.1
    have hpl : p.length < l.length := by rw [hl]; simp
    obtain ⟨z, rr, rfl⟩ : ∃ z r9, rr = z :: r9 := by
      cases rr with
      | nil => simp at h1
      | cons z r9 => exact ⟨z, r9, rfl⟩
    refine w_iload_n (q := 3) aX1_copyLine_2 rfl rfl ?_
    refine w_aload_n (q := 4) aX1_copyLine_3 rfl rfl ?_
    refine w_get (q := 7) aX1_copyLine_4 f_1_19 (hb.1) rfl rfl ?_
    refine w_ic_ge (t := 25) (q := 10) aX1_copyLine_7 (by decide) rfl (fun c7 => ?_) (fun c7 => ?_)
    · exact absurd c7 (nI_ge hpl (by omega))
    · refine w_aload_n (q := 11) aX1_copyLine_10 rfl rfl ?_
      refine w_iload_n (q := 12) aX1_copyLine_11 rfl rfl ?_
      refine w_aload_n (q := 13) aX1_copyLine_12 rfl rfl ?_
      refine w_get (q := 16) aX1_copyLine_13 f_1_9 (hb.1) rfl rfl ?_
      refine w_iload_n (q := 17) aX1_copyLine_16 rfl rfl ?_
      refine w_iald (q := 18) aX1_copyLine_17 (hb.2.2.2.1) (hb.2.1) (mm_ix_at (v := .int y) rfl (by omega) (ints_at (by rw [hl]; simp))) rfl ?_
      refine w_iast (q := 19) (n := p.length) (vs' := ((p ++ [y]) ++ rr).map Value.int) aX1_copyLine_18 (h3) (rfl) (by simp) (by simp at h2 ⊢; omega) (by simp) rfl ?_
      refine w_iinc (q := 22) (ls' := [(2, _), (0, _), (1, _)]) aX1_copyLine_19 rfl rfl (by decide) rfl rfl ?_
      refine w_goto (t := 2) aX1_copyLine_22 (by decide) ?_
      have k := ih (p ++ [y]) rr (mm_up h rw9 (5, ((p ++ [y]) ++ rr).map Value.int)) (by rw [hl]; simp) ⟨(up_n hr0).trans hb.1, (up_n hr1).trans hb.2.1, hb.2.2⟩ (by simp at h1; exact h1) (by simp at h2 ⊢; omega) (up_s _ _ _)
      rw [show nI p.length + Int32.ofInt 1 = nI (p ++ [y]).length from by rw [List.length_append]; exact nI_1 _]
      exact k.imp (fun r h' hk => ⟨hk.1, hk.2.1, (fr.up (A := fun q => q = rw9) fr.rf rfl).tr hk.2.2⟩)
theorem c_copyLine {F : Nat} {h : mm_H} {b a rw9 : Nat} {l g rr : List Int32} {w : Int32} (hb : bl h b a l g w) (hr0 : ¬ b = rw9) (hr1 : ¬ a = rw9) (hrl : rr.length = 12) (hr : h.2.2 rw9 = some (5, rr.map Value.int)) : mW none F mX1_copyLine 0 [(0, .ref b), (1, .ref rw9)] [] h (fun r h' => r = some (.int (nI l.length)) ∧ (∃ rr', l.length + rr'.length = 12 ∧ h'.2.2 rw9 = some (5, (l ++ rr').map Value.int)) ∧ fr (fun q => q = rw9) h h') := by
  have hlen := hb.2.2.1
  refine w_iconst (v := 0) (q := 1) aX1_copyLine_0 rfl rfl ?_
  refine w_istore_n (q := 2) (ls' := [(2, _), (0, _), (1, _)]) aX1_copyLine_1 (by decide) rfl rfl ?_
  exact l_copyLine hr0 hr1 l [] rr h rfl hb (by omega) (by simp <;> omega) hr
end
section
/-! arrays by functions: rg n f is the row of f 0 .. f (n - 1) -/
def rg (n : Nat) (f : Nat → Value) : List Value := (List.range n).map f
def fu {α : Type} (f : Nat → α) (k : Nat) (x : α) : Nat → α := fun j => if j = k then x else f j
theorem fu_s {α : Type} {f : Nat → α} {k : Nat} {x : α} : fu f k x k = x := if_pos rfl
theorem fu_n {α : Type} {f : Nat → α} {k j : Nat} {x : α} (h : ¬ j = k) : fu f k x j = f j := if_neg h
theorem rg_len (n : Nat) (f : Nat → Value) : (rg n f).length = n := by simp [rg]
theorem rg_at {n : Nat} {f : Nat → Value} {j : Nat} (h : j < n) : (rg n f)[j]? = some (f j) := by simp [rg, h]
theorem rg_set (n : Nat) (f : Nat → Value) (k : Nat) (v : Value) : (rg n f).set k v = rg n (fu f k v) := by
  apply List.ext_getElem?
  intro j
  rw [List.getElem?_set]
  by_cases hj : j < n
  · rw [rg_at hj, rg_len, rg_at hj]
    unfold fu
    by_cases e : k = j
    · subst e
      simp [hj]
    · rw [if_neg e, if_neg (fun z => e z.symm)]
  · have e1 : (rg n f)[j]? = none := List.getElem?_eq_none (by rw [rg_len]; omega)
    have e2 : (rg n (fu f k v))[j]? = none := List.getElem?_eq_none (by rw [rg_len]; omega)
    rw [e1, e2, rg_len]
    by_cases e : k = j
    · subst e
      simp [hj]
    · rw [if_neg e]
theorem rg_congr {n : Nat} {f g : Nat → Value} (h : ∀ j, j < n → f j = g j) : rg n f = rg n g := by
  unfold rg
  exact List.map_congr_left (fun j hj => h j (List.mem_range.mp hj))
theorem fu_map {α β : Type} (g : α → β) (f : Nat → α) (k : Nat) (x : α) : fu (fun j => g (f j)) k (g x) = fun j => g (fu f k x j) := by
  funext j
  unfold fu
  by_cases h : j = k <;> simp [h]
/-! THE QUEUE: a ring of 20 places, its object at 4, its rows at 5 and 6 -/
def QR (h : mm_H) (qu : List (Int32 × Int64)) : Prop := ∃ (hd : Nat) (fb : Nat → Int32) (fv : Nat → Int64), h.2.2 4 = some (2, [.ref 5, .ref 6, .int (nI hd), .int (nI qu.length)]) ∧ h.2.2 5 = some (5, rg 20 (fun j => .int (fb j))) ∧ h.2.2 6 = some (6, rg 20 (fun j => .long (fv j))) ∧ hd < 20 ∧ qu.length ≤ 20 ∧ ∀ i e, qu[i]? = some e → fb ((hd + i) % 20) = e.1 ∧ fv ((hd + i) % 20) = e.2
def Aq (q : Nat) : Prop := q = 4 ∨ q = 5 ∨ q = 6
theorem c_qAppend {F : Nat} {h : mm_H} {qu : List (Int32 × Int64)} {b : Int32} {v : Int64} (hq : QR h qu) : mW none F mX2_append 0 [(0, .ref 4), (1, .int b), (2, .long v)] [] h (fun r h' => (qu.length = 20 ∧ r = some (.int 0) ∧ h = h') ∨ (qu.length < 20 ∧ r = some (.int 1) ∧ QR h' (qu ++ [(b, v)]) ∧ fr Aq h h')) := by
  obtain ⟨hd, fb, fv, h4, h5, h6, hhd, hlen, hq⟩ := hq
  refine w_aload_n (q := 1) aX2_append_0 rfl rfl ?_
  refine w_get (q := 4) aX2_append_1 f_2_19 (h4) rfl rfl ?_
  refine w_bipush (v := 20) (q := 6) aX2_append_4 rfl rfl ?_
  refine w_ic_lt (t := 11) (q := 9) aX2_append_6 (by decide) rfl (fun c6 => ?_) (fun c6 => ?_)
  · have hl : qu.length < 20 := by
      rcases Nat.lt_or_ge qu.length 20 with z | z
      · exact z
      · exact absurd c6 (nI_nlt (b := 20) z (by omega))
    have hm : (hd + qu.length) % 20 < 20 := Nat.mod_lt _ (by omega)
    refine w_aload_n (q := 12) aX2_append_11 rfl rfl ?_
    refine w_get (q := 15) aX2_append_12 f_2_23 (h4) rfl rfl ?_
    refine w_aload_n (q := 16) aX2_append_15 rfl rfl ?_
    refine w_get (q := 19) aX2_append_16 f_2_19 (h4) rfl rfl ?_
    refine w_iadd (q := 20) aX2_append_19 rfl ?_
    refine w_bipush (v := 20) (q := 22) aX2_append_20 rfl rfl ?_
    refine w_irem (q := 23) aX2_append_22 (by decide) rfl ?_
    refine w_istore (q := 25) (ls' := [(4, _), (0, _), (1, _), (2, _)]) aX2_append_23 (by decide) rfl rfl ?_
    refine w_aload_n (q := 26) aX2_append_25 rfl rfl ?_
    have em : nI hd + nI qu.length - (nI hd + nI qu.length) / 20 * 20 = nI ((hd + qu.length) % 20) := by
      rw [nI_add]
      exact pk_rem (d := 20) (by omega) (by omega) (by omega)
    rw [em]
    refine w_get (q := 29) aX2_append_26 f_2_9 (h4) rfl rfl ?_
    refine w_iload (q := 31) aX2_append_29 rfl rfl ?_
    refine w_iload_n (q := 32) aX2_append_31 rfl rfl ?_
    refine w_iast (q := 33) (n := (hd + qu.length) % 20) (vs' := _) aX2_append_32 (h5) (rfl) (by rw [rg_len]; exact hm) (by rw [rg_len]; omega) (rg_set _ _ _ _) rfl ?_
    refine w_aload_n (q := 34) aX2_append_33 rfl rfl ?_
    refine w_get (q := 37) aX2_append_34 f_2_15 ((up_n (by decide)).trans h4) rfl rfl ?_
    refine w_iload (q := 39) aX2_append_37 rfl rfl ?_
    refine w_lload_n (q := 40) aX2_append_39 rfl rfl ?_
    refine w_last (q := 41) (n := (hd + qu.length) % 20) (vs' := _) aX2_append_40 ((up_n (by decide)).trans h6) (rfl) (by rw [rg_len]; exact hm) (by rw [rg_len]; omega) (rg_set _ _ _ _) rfl ?_
    refine w_aload_n (q := 42) aX2_append_41 rfl rfl ?_
    refine w_dup (q := 43) aX2_append_42 rfl rfl ?_
    refine w_get (q := 46) aX2_append_43 f_2_19 ((up_n (by decide)).trans ((up_n (by decide)).trans h4)) rfl rfl ?_
    refine w_iconst (v := 1) (q := 47) aX2_append_46 rfl rfl ?_
    refine w_iadd (q := 48) aX2_append_47 rfl ?_
    refine w_put (q := 51) (fs' := [_, _, _, _]) aX2_append_48 f_2_19 ((up_n (by decide)).trans ((up_n (by decide)).trans h4)) (Nat.le_of_ble_eq_true rfl) rfl rfl (Or.inl rfl) rfl rfl ?_
    refine w_iconst (v := 1) (q := 52) aX2_append_51 rfl rfl ?_
    refine w_zret aX2_append_52 rfl (Or.inr rfl) ?_
    refine Or.inr ⟨hl, rfl, ⟨hd, fu fb ((hd + qu.length) % 20) b, fu fv ((hd + qu.length) % 20) v, ?_, ?_, ?_, hhd, by simp; omega, ?_⟩, ?_⟩
    · rw [up_s]
      simp only [List.length_append, List.length_cons, List.length_nil]
      rw [nI_1]
    · rw [up_n (by decide), up_n (by decide), up_s, fu_map Value.int]
    · rw [up_n (by decide), up_s, fu_map Value.long]
    · intro i e he
      by_cases hi : i < qu.length
      · rw [List.getElem?_append_left hi] at he
        have hne : ¬ (hd + i) % 20 = (hd + qu.length) % 20 := by omega
        rw [fu_n hne, fu_n hne]
        exact hq i e he
      · have hi2 : i = qu.length := by
          have := (List.getElem?_eq_some_iff.mp he).1
          simp at this
          omega
        subst hi2
        rw [List.getElem?_append_right (Nat.le_refl _)] at he
        simp at he
        subst he
        rw [fu_s, fu_s]
        exact ⟨rfl, rfl⟩
    · exact ((fr.rf.up (Or.inr (Or.inl rfl))).up (Or.inr (Or.inr rfl))).up (Or.inl rfl)
  · refine w_iconst (v := 0) (q := 10) aX2_append_9 rfl rfl ?_
    refine w_zret aX2_append_10 rfl (Or.inl rfl) ?_
    refine Or.inl ⟨?_, rfl, rfl⟩
    rcases Nat.lt_or_ge qu.length 20 with z | z
    · exact absurd (nI_lt (b := 20) z (by omega)) c6
    · omega
theorem c_bellAt {F : Nat} {h : mm_H} {qu : List (Int32 × Int64)} {x : Int32} (hq : QR h qu) : mW none F mX2_bellAt 0 [(0, .ref 4), (1, .int x)] [] h (fun r h' => r = some (.int (if x < 0 then -1 else ((qu[x.toNatClampNeg]?).map (fun e => e.1)).getD (-1))) ∧ h = h') := by
  obtain ⟨hd, fb, fv, h4, h5, h6, hhd, hlen, hq⟩ := hq
  refine w_iload_n (q := 1) aX2_bellAt_0 rfl rfl ?_
  refine w_if_lt (t := 29) (q := 4) aX2_bellAt_1 (by decide) rfl (fun c1 => ?_) (fun c1 => ?_)
  · refine w_iconst (v := -1) (q := 30) aX2_bellAt_29 rfl rfl ?_
    refine w_iret aX2_bellAt_30 rfl ?_
    exact ⟨by rw [if_pos c1], rfl⟩
  · obtain ⟨j, hj, rfl⟩ := nI_of c1
    refine w_iload_n (q := 5) aX2_bellAt_4 rfl rfl ?_
    refine w_aload_n (q := 6) aX2_bellAt_5 rfl rfl ?_
    refine w_get (q := 9) aX2_bellAt_6 f_2_19 (h4) rfl rfl ?_
    refine w_ic_ge (t := 29) (q := 12) aX2_bellAt_9 (by decide) rfl (fun c9 => ?_) (fun c9 => ?_)
    · refine w_iconst (v := -1) (q := 30) aX2_bellAt_29 rfl rfl ?_
      refine w_iret aX2_bellAt_30 rfl ?_
      have : qu.length ≤ j := (nI_leI (by omega) hj).mp c9
      refine ⟨?_, rfl⟩
      rw [if_neg c1, nI_clamp hj, List.getElem?_eq_none this]
      rfl
    · have hjl : j < qu.length := by
        rcases Nat.lt_or_ge j qu.length with z | z
        · exact z
        · exact absurd (nI_le z hj) c9
      have hm : (hd + j) % 20 < 20 := Nat.mod_lt _ (by omega)
      have em : nI hd + nI j - (nI hd + nI j) / 20 * 20 = nI ((hd + j) % 20) := by
        rw [nI_add]
        exact pk_rem (d := 20) (by omega) (by omega) (by omega)
      refine w_aload_n (q := 13) aX2_bellAt_12 rfl rfl ?_
      refine w_get (q := 16) aX2_bellAt_13 f_2_9 (h4) rfl rfl ?_
      refine w_aload_n (q := 17) aX2_bellAt_16 rfl rfl ?_
      refine w_get (q := 20) aX2_bellAt_17 f_2_23 (h4) rfl rfl ?_
      refine w_iload_n (q := 21) aX2_bellAt_20 rfl rfl ?_
      refine w_iadd (q := 22) aX2_bellAt_21 rfl ?_
      refine w_bipush (v := 20) (q := 24) aX2_bellAt_22 rfl rfl ?_
      refine w_irem (q := 25) aX2_bellAt_24 (by decide) rfl ?_
      rw [em]
      refine w_iald (q := 26) aX2_bellAt_25 (by decide) (h5) (mm_ix_at (n := (hd + j) % 20) rfl (by omega) (rg_at hm)) rfl ?_
      refine w_goto (t := 30) aX2_bellAt_26 (by decide) ?_
      refine w_iret aX2_bellAt_30 rfl ?_
      refine ⟨?_, rfl⟩
      rw [if_neg c1, nI_clamp hj, List.getElem?_eq_getElem hjl, (hq j _ (List.getElem?_eq_getElem hjl)).1]
      rfl
theorem c_firstBell {F : Nat} {h : mm_H} {e : Int32 × Int64} {qu : List (Int32 × Int64)} (hq : QR h (e :: qu)) : mW none F mX2_firstBell 0 [(0, .ref 4)] [] h (fun r h' => r = some (.int e.1) ∧ h = h') := by
  obtain ⟨hd, fb, fv, h4, h5, h6, hhd, hlen, hq⟩ := hq
  have h0 := hq 0 e rfl
  rw [Nat.add_zero, Nat.mod_eq_of_lt hhd] at h0
  refine w_aload_n (q := 1) aX2_firstBell_0 rfl rfl ?_
  refine w_get (q := 4) aX2_firstBell_1 f_2_9 (h4) rfl rfl ?_
  refine w_aload_n (q := 5) aX2_firstBell_4 rfl rfl ?_
  refine w_get (q := 8) aX2_firstBell_5 f_2_23 (h4) rfl rfl ?_
  refine w_iald (q := 9) aX2_firstBell_8 (by decide) (h5) (mm_ix_at (n := hd) rfl (by omega) (rg_at hhd)) rfl ?_
  refine w_iret aX2_firstBell_9 rfl ?_
  exact ⟨by rw [h0.1], rfl⟩
theorem c_firstValue {F : Nat} {h : mm_H} {e : Int32 × Int64} {qu : List (Int32 × Int64)} (hq : QR h (e :: qu)) : mW none F mX2_firstValue 0 [(0, .ref 4)] [] h (fun r h' => r = some (.long e.2) ∧ h = h') := by
  obtain ⟨hd, fb, fv, h4, h5, h6, hhd, hlen, hq⟩ := hq
  have h0 := hq 0 e rfl
  rw [Nat.add_zero, Nat.mod_eq_of_lt hhd] at h0
  refine w_aload_n (q := 1) aX2_firstValue_0 rfl rfl ?_
  refine w_get (q := 4) aX2_firstValue_1 f_2_15 (h4) rfl rfl ?_
  refine w_aload_n (q := 5) aX2_firstValue_4 rfl rfl ?_
  refine w_get (q := 8) aX2_firstValue_5 f_2_23 (h4) rfl rfl ?_
  refine w_lald (q := 9) aX2_firstValue_8 (h6) (mm_ix_at (n := hd) rfl (by omega) (rg_at hhd)) rfl ?_
  refine w_lret aX2_firstValue_9 rfl ?_
  exact ⟨by rw [h0.2], rfl⟩
theorem c_dropFirst {F : Nat} {h : mm_H} {e : Int32 × Int64} {qu : List (Int32 × Int64)} (hq : QR h (e :: qu)) : mW none F mX2_dropFirst 0 [(0, .ref 4)] [] h (fun r h' => r = none ∧ QR h' qu ∧ fr Aq h h') := by
  obtain ⟨hd, fb, fv, h4, h5, h6, hhd, hlen, hq⟩ := hq
  simp only [List.length_cons] at hlen h4
  refine w_aload_n (q := 1) aX2_dropFirst_0 rfl rfl ?_
  refine w_get (q := 4) aX2_dropFirst_1 f_2_19 (h4) rfl rfl ?_
  refine w_if_le (t := 30) (q := 7) aX2_dropFirst_4 (by decide) rfl (fun c4 => ?_) (fun c4 => ?_)
  · exact absurd c4 (nI_nle (by omega) (by omega))
  · have em : nI hd + 1 - (nI hd + 1) / 20 * 20 = nI ((hd + 1) % 20) := by
      rw [nI_1]
      exact pk_rem (d := 20) (by omega) (by omega) (by omega)
    refine w_aload_n (q := 8) aX2_dropFirst_7 rfl rfl ?_
    refine w_aload_n (q := 9) aX2_dropFirst_8 rfl rfl ?_
    refine w_get (q := 12) aX2_dropFirst_9 f_2_23 (h4) rfl rfl ?_
    refine w_iconst (v := 1) (q := 13) aX2_dropFirst_12 rfl rfl ?_
    refine w_iadd (q := 14) aX2_dropFirst_13 rfl ?_
    refine w_bipush (v := 20) (q := 16) aX2_dropFirst_14 rfl rfl ?_
    refine w_irem (q := 17) aX2_dropFirst_16 (by decide) rfl ?_
    rw [em]
    refine w_put (q := 20) (fs' := [_, _, _, _]) aX2_dropFirst_17 f_2_23 (h4) (Nat.le_of_ble_eq_true rfl) rfl rfl (Or.inl rfl) rfl rfl ?_
    refine w_aload_n (q := 21) aX2_dropFirst_20 rfl rfl ?_
    refine w_dup (q := 22) aX2_dropFirst_21 rfl rfl ?_
    refine w_get (q := 25) aX2_dropFirst_22 f_2_19 (up_s _ _ _) rfl rfl ?_
    refine w_iconst (v := 1) (q := 26) aX2_dropFirst_25 rfl rfl ?_
    refine w_isub (q := 27) aX2_dropFirst_26 rfl ?_
    refine w_put (q := 30) (fs' := [_, _, _, _]) aX2_dropFirst_27 f_2_19 (up_s _ _ _) (Nat.le_of_ble_eq_true rfl) rfl rfl (Or.inl rfl) rfl rfl ?_
    refine w_vret aX2_dropFirst_30 rfl ?_
    refine ⟨rfl, ⟨(hd + 1) % 20, fb, fv, ?_, ?_, ?_, Nat.mod_lt _ (by omega), by omega, ?_⟩, (fr.rf.up (Or.inl rfl)).up (Or.inl rfl)⟩
    · rw [up_s, nI_pred]
    · rw [up_n (by decide), up_n (by decide), h5]
    · rw [up_n (by decide), up_n (by decide), h6]
    · intro i e9 he
      have := hq (i + 1) e9 he
      rw [show ((hd + 1) % 20 + i) % 20 = (hd + (i + 1)) % 20 by omega]
      exact this
end
section
/-! THE STATE that class and reference share: counts, tallies, ways, lines, the queue, how many hearers, their acts (sort, a, b, tally as made, two acts as made), how often each began, which act each hearer has, steps of the call, ringings under way -/
abbrev Act9 : Type := Int32 × Int32 × Int32 × Int64 × Option Nat × Option Nat
abbrev St : Type := (Nat → Int32) × (Nat → Int64) × (Nat → Int32) × (Nat → List Int32) × List (Int32 × Int64) × Nat × (Nat → Act9) × (Nat → Nat) × (Nat → Option Nat) × Nat × Nat
def sC (S : St) : Nat → Int32 := S.1
def sT (S : St) : Nat → Int64 := S.2.1
def sW (S : St) : Nat → Int32 := S.2.2.1
def sL (S : St) : Nat → List Int32 := S.2.2.2.1
def sQ (S : St) : List (Int32 × Int64) := S.2.2.2.2.1
def sM (S : St) : Nat := S.2.2.2.2.2.1
def sA (S : St) : Nat → Act9 := S.2.2.2.2.2.2.1
def sB (S : St) : Nat → Nat := S.2.2.2.2.2.2.2.1
def sH (S : St) : Nat → Option Nat := S.2.2.2.2.2.2.2.2.1
def sS (S : St) : Nat := S.2.2.2.2.2.2.2.2.2.1
def sD (S : St) : Nat := S.2.2.2.2.2.2.2.2.2.2
def uC (S : St) (x : Nat → Int32) : St := (x, sT S, sW S, sL S, sQ S, sM S, sA S, sB S, sH S, sS S, sD S)
def uT (S : St) (x : Nat → Int64) : St := (sC S, x, sW S, sL S, sQ S, sM S, sA S, sB S, sH S, sS S, sD S)
def uW (S : St) (x : Nat → Int32) : St := (sC S, sT S, x, sL S, sQ S, sM S, sA S, sB S, sH S, sS S, sD S)
def uL (S : St) (x : Nat → List Int32) : St := (sC S, sT S, sW S, x, sQ S, sM S, sA S, sB S, sH S, sS S, sD S)
def uQ (S : St) (x : List (Int32 × Int64)) : St := (sC S, sT S, sW S, sL S, x, sM S, sA S, sB S, sH S, sS S, sD S)
def uB (S : St) (x : Nat → Nat) : St := (sC S, sT S, sW S, sL S, sQ S, sM S, sA S, x, sH S, sS S, sD S)
def uH (S : St) (x : Nat → Option Nat) : St := (sC S, sT S, sW S, sL S, sQ S, sM S, sA S, sB S, x, sS S, sD S)
def uS (S : St) (x : Nat) : St := (sC S, sT S, sW S, sL S, sQ S, sM S, sA S, sB S, sH S, x, sD S)
def uD (S : St) (x : Nat) : St := (sC S, sT S, sW S, sL S, sQ S, sM S, sA S, sB S, sH S, sS S, x)
def inc (f : Nat → Int32) (k : Nat) : Nat → Int32 := fu f k (f k + 1)
/-- where the k-th act lies -/
def aa (k : Nat) : Nat := if k < 2 then 30 + k else 53 + k
theorem aa_or (k : Nat) : (k < 2 ∧ aa k = 30 + k) ∨ (2 ≤ k ∧ aa k = 53 + k) := by
  unfold aa
  by_cases h : k < 2
  · rw [if_pos h]; exact Or.inl ⟨h, rfl⟩
  · rw [if_neg h]; exact Or.inr ⟨by omega, rfl⟩
theorem aa_inj {j k : Nat} (h : aa j = aa k) : j = k := by
  rcases aa_or j with ⟨a, b⟩ | ⟨a, b⟩ <;> rcases aa_or k with ⟨c, d⟩ | ⟨c, d⟩ <;> omega
def hoL (S : St) : List Value := [.ref 2, .ref 3, .ref 4, .ref 7, .ref 8, .int (nI (sM S)), .ref 9, .int (nI (sD S)), .int (nI (sS S)), .int (sC S 1), .int (sC S 2), .int (sC S 3), .int (sC S 4), .int (sC S 5), .int (sC S 6), .int (sC S 8), .int (sC S 9)]
def acL (a : Act9) (n : Nat) : List Value := [.int a.1, .int a.2.1, .int a.2.2.1, .long a.2.2.2.1, va_rf (a.2.2.2.2.1.map aa), va_rf (a.2.2.2.2.2.map aa), .int (nI n)]
/-- the class's cells hold the state S -/
def RC (S : St) (h : mm_H) : Prop :=
  h.2.2 1 = some (3, hoL S) ∧ h.2.2 2 = some (6, rg 8 (fun j => .long (sT S j))) ∧ h.2.2 3 = some (8, rg 6 (fun j => .ref (18 + 2 * j))) ∧ QR h (sQ S) ∧
  h.2.2 7 = some (7, rg 40 (fun j => va_rf (if j < sM S then some (aa j) else none))) ∧ h.2.2 8 = some (7, rg 40 (fun j => va_rf ((sH S j).map aa))) ∧ h.2.2 9 = some (9, rg 8 (fun j => .ref (10 + j))) ∧
  (∀ d, d < 8 → ∃ rr : List Int32, rr.length = 12 ∧ h.2.2 (10 + d) = some (5, rr.map Value.int)) ∧ (∀ k, k < 6 → ∃ g, bl h (18 + 2 * k) (19 + 2 * k) (sL S k) g (sW S k)) ∧ (∀ k, k < sM S → h.2.2 (aa k) = some (0, acL (sA S k) (sB S k)))
theorem RC.ho {S : St} {h : mm_H} (r : RC S h) : h.2.2 1 = some (3, hoL S) := r.1
theorem RC.ta {S : St} {h : mm_H} (r : RC S h) : h.2.2 2 = some (6, rg 8 (fun j => .long (sT S j))) := r.2.1
theorem RC.be {S : St} {h : mm_H} (r : RC S h) : h.2.2 3 = some (8, rg 6 (fun j => .ref (18 + 2 * j))) := r.2.2.1
theorem RC.qu {S : St} {h : mm_H} (r : RC S h) : QR h (sQ S) := r.2.2.2.1
theorem RC.ow {S : St} {h : mm_H} (r : RC S h) : h.2.2 7 = some (7, rg 40 (fun j => va_rf (if j < sM S then some (aa j) else none))) := r.2.2.2.2.1
theorem RC.ha {S : St} {h : mm_H} (r : RC S h) : h.2.2 8 = some (7, rg 40 (fun j => va_rf ((sH S j).map aa))) := r.2.2.2.2.2.1
theorem RC.ro {S : St} {h : mm_H} (r : RC S h) : h.2.2 9 = some (9, rg 8 (fun j => .ref (10 + j))) := r.2.2.2.2.2.2.1
theorem RC.rw {S : St} {h : mm_H} (r : RC S h) {d : Nat} (hd : d < 8) : ∃ rr : List Int32, rr.length = 12 ∧ h.2.2 (10 + d) = some (5, rr.map Value.int) := r.2.2.2.2.2.2.2.1 d hd
theorem RC.bel {S : St} {h : mm_H} (r : RC S h) {k : Nat} (hk : k < 6) : ∃ g, bl h (18 + 2 * k) (19 + 2 * k) (sL S k) g (sW S k) := r.2.2.2.2.2.2.2.2.1 k hk
theorem RC.ac {S : St} {h : mm_H} (r : RC S h) {k : Nat} (hk : k < sM S) : h.2.2 (aa k) = some (0, acL (sA S k) (sB S k)) := r.2.2.2.2.2.2.2.2.2 k hk
theorem QR.kept {h h' : mm_H} {q : List (Int32 × Int64)} (hq : QR h q) (e : ∀ a, a = 4 ∨ a = 5 ∨ a = 6 → h'.2.2 a = h.2.2 a) : QR h' q := by
  obtain ⟨hd, fb, fv, h4, h5, h6, r⟩ := hq
  exact ⟨hd, fb, fv, (e 4 (by simp)).trans h4, (e 5 (by simp)).trans h5, (e 6 (by simp)).trans h6, r⟩
theorem bl.kept {h h' : mm_H} {b a : Nat} {l g : List Int32} {w : Int32} (hb : bl h b a l g w) (e1 : h'.2.2 b = h.2.2 b) (e2 : h'.2.2 a = h.2.2 a) : bl h' b a l g w := ⟨e1.trans hb.1, e2.trans hb.2.1, hb.2.2⟩
/-- the cells of the class, as the state grows (its acts from 55 on) -/
def AC (q : Nat) : Prop := (1 ≤ q ∧ q < 32) ∨ 55 ≤ q
/-- the same, but for the rows of those to be told -/
def AR (q : Nat) : Prop := AC q ∧ ¬ (10 ≤ q ∧ q < 18)
theorem AC_aa (k : Nat) : AC (aa k) := by
  unfold AC
  rcases aa_or k with ⟨a, b⟩ | ⟨a, b⟩ <;> omega
theorem RC.upHo {S S' : St} {h : mm_H} {c : List Value} (r : RC S h) (hc : c = hoL S') (e : sT S' = sT S ∧ sL S' = sL S ∧ sW S' = sW S ∧ sQ S' = sQ S ∧ sM S' = sM S ∧ sA S' = sA S ∧ sB S' = sB S ∧ sH S' = sH S) : RC S' (mm_up h 1 (3, c)) := by
  obtain ⟨e1, e2, e3, e4, e5, e6, e7, e8⟩ := e
  subst hc
  refine ⟨up_s _ _ _, ?_, ?_, ?_, ?_, ?_, ?_, ?_, ?_, ?_⟩
  · rw [e1]; exact (up_n (by decide)).trans r.ta
  · exact (up_n (by decide)).trans r.be
  · rw [e4]; exact r.qu.kept (fun a ha => up_n (by omega))
  · rw [e5]; exact (up_n (by decide)).trans r.ow
  · rw [e8]; exact (up_n (by decide)).trans r.ha
  · exact (up_n (by decide)).trans r.ro
  · intro d hd
    obtain ⟨rr, h1, h2⟩ := r.rw hd
    exact ⟨rr, h1, (up_n (by omega)).trans h2⟩
  · intro k hk
    obtain ⟨g, hg⟩ := r.bel hk
    rw [e2, e3]
    exact ⟨g, hg.kept (up_n (by omega)) (up_n (by omega))⟩
  · intro k hk
    rw [e5] at hk
    rw [e6, e7]
    exact (up_n (by rcases aa_or k with ⟨a, b⟩ | ⟨a, b⟩ <;> omega)).trans (r.ac hk)
theorem RC.upTa {S : St} {h : mm_H} {t : Nat → Int64} {c : List Value} (r : RC S h) (hc : c = rg 8 (fun j => .long (t j))) : RC (uT S t) (mm_up h 2 (6, c)) := by
  subst hc
  refine ⟨(up_n (by decide)).trans r.ho, up_s _ _ _, (up_n (by decide)).trans r.be, r.qu.kept (fun a ha => up_n (by omega)), (up_n (by decide)).trans r.ow, (up_n (by decide)).trans r.ha, (up_n (by decide)).trans r.ro, ?_, ?_, ?_⟩
  · intro d hd
    obtain ⟨rr, h1, h2⟩ := r.rw hd
    exact ⟨rr, h1, (up_n (by omega)).trans h2⟩
  · intro k hk
    obtain ⟨g, hg⟩ := r.bel hk
    exact ⟨g, hg.kept (up_n (by omega)) (up_n (by omega))⟩
  · intro k hk
    exact (up_n (by rcases aa_or k with ⟨a, b⟩ | ⟨a, b⟩ <;> omega)).trans (r.ac hk)
theorem RC.upBe {S : St} {h h' : mm_H} {k : Nat} {l : List Int32} {w : Int32} (r : RC S h) (hk : k < 6) (hf : fr (fun q => q = 18 + 2 * k ∨ q = 19 + 2 * k) h h') (hb : ∃ g, bl h' (18 + 2 * k) (19 + 2 * k) l g w) : RC (uW (uL S (fu (sL S) k l)) (fu (sW S) k w)) h' := by
  have K : ∀ q, ¬ (q = 18 + 2 * k ∨ q = 19 + 2 * k) → h'.2.2 q = h.2.2 q := hf.2.2
  refine ⟨(K _ (by omega)).trans r.ho, (K _ (by omega)).trans r.ta, (K _ (by omega)).trans r.be, r.qu.kept (fun a ha => K _ (by omega)), (K _ (by omega)).trans r.ow, (K _ (by omega)).trans r.ha, (K _ (by omega)).trans r.ro, ?_, ?_, ?_⟩
  · intro d hd
    obtain ⟨rr, h1, h2⟩ := r.rw hd
    exact ⟨rr, h1, (K _ (by omega)).trans h2⟩
  · intro j hj
    show ∃ g, bl h' (18 + 2 * j) (19 + 2 * j) (fu (sL S) k l j) g (fu (sW S) k w j)
    by_cases e : j = k
    · subst e
      rw [fu_s, fu_s]
      exact hb
    · rw [fu_n e, fu_n e]
      obtain ⟨g, hg⟩ := r.bel hj
      exact ⟨g, hg.kept (K _ (by omega)) (K _ (by omega))⟩
  · intro j hj
    exact (K _ (by rcases aa_or j with ⟨a, b⟩ | ⟨a, b⟩ <;> omega)).trans (r.ac hj)
theorem RC.upQu {S : St} {h h' : mm_H} {q : List (Int32 × Int64)} (r : RC S h) (hf : fr Aq h h') (hq : QR h' q) : RC (uQ S q) h' := by
  have K : ∀ q, ¬ (q = 4 ∨ q = 5 ∨ q = 6) → h'.2.2 q = h.2.2 q := hf.2.2
  refine ⟨(K _ (by omega)).trans r.ho, (K _ (by omega)).trans r.ta, (K _ (by omega)).trans r.be, hq, (K _ (by omega)).trans r.ow, (K _ (by omega)).trans r.ha, (K _ (by omega)).trans r.ro, ?_, ?_, ?_⟩
  · intro d hd
    obtain ⟨rr, h1, h2⟩ := r.rw hd
    exact ⟨rr, h1, (K _ (by omega)).trans h2⟩
  · intro j hj
    obtain ⟨g, hg⟩ := r.bel hj
    exact ⟨g, hg.kept (K _ (by omega)) (K _ (by omega))⟩
  · intro j hj
    exact (K _ (by rcases aa_or j with ⟨a, b⟩ | ⟨a, b⟩ <;> omega)).trans (r.ac hj)
theorem RC.upRo {S : St} {h h' : mm_H} {d : Nat} (r : RC S h) (hd : d < 8) (hf : fr (fun q => q = 10 + d) h h') (hr : ∃ rr : List Int32, rr.length = 12 ∧ h'.2.2 (10 + d) = some (5, rr.map Value.int)) : RC S h' := by
  have K : ∀ q, ¬ (q = 10 + d) → h'.2.2 q = h.2.2 q := hf.2.2
  refine ⟨(K _ (by omega)).trans r.ho, (K _ (by omega)).trans r.ta, (K _ (by omega)).trans r.be, r.qu.kept (fun a ha => K _ (by omega)), (K _ (by omega)).trans r.ow, (K _ (by omega)).trans r.ha, (K _ (by omega)).trans r.ro, ?_, ?_, ?_⟩
  · intro e he
    by_cases ed : e = d
    · subst ed
      exact hr
    · obtain ⟨rr, h1, h2⟩ := r.rw he
      exact ⟨rr, h1, (K _ (by omega)).trans h2⟩
  · intro j hj
    obtain ⟨g, hg⟩ := r.bel hj
    exact ⟨g, hg.kept (K _ (by omega)) (K _ (by omega))⟩
  · intro j hj
    exact (K _ (by rcases aa_or j with ⟨a, b⟩ | ⟨a, b⟩ <;> omega)).trans (r.ac hj)
theorem RC.upAc {S : St} {h : mm_H} {k n : Nat} {c : List Value} (r : RC S h) (hk : k < sM S) (hc : c = acL (sA S k) n) : RC (uB S (fu (sB S) k n)) (mm_up h (aa k) (0, c)) := by
  subst hc
  have hak := aa_or k
  refine ⟨(up_n (by omega)).trans r.ho, (up_n (by omega)).trans r.ta, (up_n (by omega)).trans r.be, r.qu.kept (fun a ha => up_n (by omega)), (up_n (by omega)).trans r.ow, (up_n (by omega)).trans r.ha, (up_n (by omega)).trans r.ro, ?_, ?_, ?_⟩
  · intro d hd
    obtain ⟨rr, h1, h2⟩ := r.rw hd
    exact ⟨rr, h1, (up_n (by omega)).trans h2⟩
  · intro j hj
    obtain ⟨g, hg⟩ := r.bel hj
    exact ⟨g, hg.kept (up_n (by omega)) (up_n (by omega))⟩
  · intro j hj
    show (mm_up h (aa k) (0, acL (sA S k) n)).2.2 (aa j) = some (0, acL (sA S j) (fu (sB S) k n j))
    by_cases e : j = k
    · subst e
      rw [up_s, fu_s]
    · rw [fu_n e]
      exact (up_n (fun z => e (aa_inj z))).trans (r.ac hj)
theorem RC.upHa {S : St} {h : mm_H} {i : Nat} {o : Option Nat} {c : List Value} (r : RC S h) (hc : c = rg 40 (fun j => va_rf ((fu (sH S) i o j).map aa))) : RC (uH S (fu (sH S) i o)) (mm_up h 8 (7, c)) := by
  subst hc
  refine ⟨(up_n (by decide)).trans r.ho, (up_n (by decide)).trans r.ta, (up_n (by decide)).trans r.be, r.qu.kept (fun a ha => up_n (by omega)), (up_n (by decide)).trans r.ow, up_s _ _ _, (up_n (by decide)).trans r.ro, ?_, ?_, ?_⟩
  · intro d hd
    obtain ⟨rr, h1, h2⟩ := r.rw hd
    exact ⟨rr, h1, (up_n (by omega)).trans h2⟩
  · intro k hk
    obtain ⟨g, hg⟩ := r.bel hk
    exact ⟨g, hg.kept (up_n (by omega)) (up_n (by omega))⟩
  · intro k hk
    exact (up_n (by rcases aa_or k with ⟨a, b⟩ | ⟨a, b⟩ <;> omega)).trans (r.ac hk)
/-! numbers within a range -/
abbrev rN (n : Nat) (x : Int32) : Prop := ¬ x < 0 ∧ x < nI n
abbrev rL (v : Int64) : Prop := ¬ v < 0 ∧ v < 8
theorem rN_of {n : Nat} {x : Int32} (hn : n < 2 ^ 31) (h : rN n x) : ∃ j, j < n ∧ x = nI j := by
  obtain ⟨j, hj, rfl⟩ := nI_of h.1
  exact ⟨j, (nI_ltI hj hn).mp h.2, rfl⟩
theorem rN_nI {n j : Nat} (hn : n < 2 ^ 31) (h : j < n) : rN n (nI j) := ⟨nI_pos (by omega), nI_lt h hn⟩
theorem rL_of (x : Int32) : rL x.toInt64 ↔ rN 8 x := by
  unfold rL rN
  rw [Int64.lt_iff_toInt_lt, Int64.lt_iff_toInt_lt, Int32.lt_iff_toInt_lt, Int32.lt_iff_toInt_lt, Int32.toInt_toInt64, nI_toInt (by omega)]
  exact Iff.rfl
theorem fu_id {α : Type} (f : Nat → α) (k : Nat) : fu f k (f k) = f := by
  funext j
  unfold fu
  by_cases h : j = k <;> simp [h]
/-! what the calls answer and do -/
def p_tally (S : St) (k : Int32) (v : Int64) : Int32 × St := if rN 8 k then (1, uT S (fu (sT S) k.toNatClampNeg v)) else (-2, S)
def p_way (S : St) (b w : Int32) : Int32 × St := if rN 6 b ∧ (w = 0 ∨ w = 1) then (sW S b.toNatClampNeg, uW S (fu (sW S) b.toNatClampNeg w)) else (-2, S)
def p_bind (S : St) (x b : Int32) : Int32 × St := if rN (sM S) x ∧ rN 6 b then (if x ∈ sL S b.toNatClampNeg then (-1, S) else if (sL S b.toNatClampNeg).length = 12 then (-3, S) else (nI (sL S b.toNatClampNeg).length, uL S (fu (sL S) b.toNatClampNeg (sL S b.toNatClampNeg ++ [x])))) else (-2, S)
def p_leave (S : St) (x b : Int32) : Int32 × St := if rN (sM S) x ∧ rN 6 b then (pls (sL S b.toNatClampNeg) x, uL S (fu (sL S) b.toNatClampNeg ((sL S b.toNatClampNeg).erase x))) else (-2, S)
def p_take (S : St) (x : Int32) : Int32 × St := if rN (sM S) x then (if sH S x.toNatClampNeg = none then 0 else 1, uH S (fu (sH S) x.toNatClampNeg none)) else (-2, S)
def p_lend (S : St) (x y : Int32) : Int32 × St := if rN (sM S) x ∧ rN (sM S) y then (1, uH S (fu (sH S) x.toNatClampNeg (sH S y.toNatClampNeg))) else (-2, S)
def p_get (S : St) (k : Int32) : Int64 := if rN 8 k then sT S k.toNatClampNeg else 0
def p_line (S : St) (b x : Int32) : Int32 := if rN 6 b then (if x < 0 then -1 else ((sL S b.toNatClampNeg)[x.toNatClampNeg]?).getD (-1)) else -2
def p_queued (S : St) (x : Int32) : Int32 := if x < 0 then -1 else (((sQ S)[x.toNatClampNeg]?).map (fun e => e.1)).getD (-1)
def p_count (S : St) (x : Int32) : Int32 := if rN 10 x then (if x = 0 then nI (sM S) else if x = 7 then nI (sQ S).length else sC S x.toNatClampNeg) else -2
def p_done (S : St) (x : Int32) : Int32 := if rN (sM S) x then nI (sB S x.toNatClampNeg) else -2
/-- a call's end in the class: the answer, the state, and nothing else written -/
def cP (q : Int32 × St) (h : mm_H) : Option Value → mm_H → Prop := fun r h' => r = some (.int q.1) ∧ RC q.2 h' ∧ fr AR h h'
end
section
theorem c_isTally {F : Nat} {h : mm_H} {v : Int64} : mW none F mX3_isTally 0 [(0, .long v)] [] h (fun r h' => r = some (.int (bz (rL v))) ∧ h = h') := by
  refine w_lload_n (q := 1) aX3_isTally_0 rfl rfl ?_
  refine w_lconst (v := 0) (q := 2) aX3_isTally_1 rfl rfl ?_
  refine w_lcmp (q := 3) aX3_isTally_2 rfl ?_
  refine w_if_lt (t := 18) (q := 6) aX3_isTally_3 (by decide) rfl (fun c3 => ?_) (fun c3 => ?_)
  · refine w_iconst (v := 0) (q := 19) aX3_isTally_18 rfl rfl ?_
    refine w_zret aX3_isTally_19 rfl (Or.inl rfl) ?_
    exact ⟨by rw [bz_0 (fun z => z.1 ((lg_cmp_lt _ _).mp c3))], rfl⟩
  · refine w_lload_n (q := 7) aX3_isTally_6 rfl rfl ?_
    refine w_ldc (q := 10) aX3_isTally_7 l_3_130 rfl ?_
    refine w_lcmp (q := 11) aX3_isTally_10 rfl ?_
    refine w_if_ge (t := 18) (q := 14) aX3_isTally_11 (by decide) rfl (fun c11 => ?_) (fun c11 => ?_)
    · refine w_iconst (v := 0) (q := 19) aX3_isTally_18 rfl rfl ?_
      refine w_zret aX3_isTally_19 rfl (Or.inl rfl) ?_
      exact ⟨by rw [bz_0 (fun z => Int64.not_lt.mpr ((lg_cmp_ge _ _).mp c11) z.2)], rfl⟩
    · refine w_iconst (v := 1) (q := 15) aX3_isTally_14 rfl rfl ?_
      refine w_goto (t := 19) aX3_isTally_15 (by decide) ?_
      refine w_zret aX3_isTally_19 rfl (Or.inr rfl) ?_
      exact ⟨by rw [bz_1 ⟨fun z => c3 ((lg_cmp_lt _ _).mpr z), Int64.not_le.mp (fun z => c11 ((lg_cmp_ge _ _).mpr z))⟩], rfl⟩
theorem c_isBell {F : Nat} {h : mm_H} {x : Int32} : mW none F mX3_isBell 0 [(0, .int x)] [] h (fun r h' => r = some (.int (bz (rN 6 x))) ∧ h = h') := by
  refine w_iload_n (q := 1) aX3_isBell_0 rfl rfl ?_
  refine w_if_lt (t := 14) (q := 4) aX3_isBell_1 (by decide) rfl (fun c1 => ?_) (fun c1 => ?_)
  · refine w_iconst (v := 0) (q := 15) aX3_isBell_14 rfl rfl ?_
    refine w_zret aX3_isBell_15 rfl (Or.inl rfl) ?_
    exact ⟨by rw [bz_0 (fun z => z.1 c1)], rfl⟩
  · refine w_iload_n (q := 5) aX3_isBell_4 rfl rfl ?_
    refine w_bipush (v := 6) (q := 7) aX3_isBell_5 rfl rfl ?_
    refine w_ic_ge (t := 14) (q := 10) aX3_isBell_7 (by decide) rfl (fun c7 => ?_) (fun c7 => ?_)
    · refine w_iconst (v := 0) (q := 15) aX3_isBell_14 rfl rfl ?_
      refine w_zret aX3_isBell_15 rfl (Or.inl rfl) ?_
      exact ⟨by rw [bz_0 (fun z => k2_nlt c7 z.2)], rfl⟩
    · refine w_iconst (v := 1) (q := 11) aX3_isBell_10 rfl rfl ?_
      refine w_goto (t := 15) aX3_isBell_11 (by decide) ?_
      refine w_zret aX3_isBell_15 rfl (Or.inr rfl) ?_
      exact ⟨by rw [bz_1 ⟨c1, k2_lt c7⟩], rfl⟩
theorem c_isHearer {F : Nat} {h : mm_H} {S : St} {x : Int32} (hR : RC S h) : mW none F mX3_isHearer 0 [(0, .ref 1), (1, .int x)] [] h (fun r h' => r = some (.int (bz (rN (sM S) x))) ∧ h = h') := by
  refine w_iload_n (q := 1) aX3_isHearer_0 rfl rfl ?_
  refine w_if_lt (t := 16) (q := 4) aX3_isHearer_1 (by decide) rfl (fun c1 => ?_) (fun c1 => ?_)
  · refine w_iconst (v := 0) (q := 17) aX3_isHearer_16 rfl rfl ?_
    refine w_zret aX3_isHearer_17 rfl (Or.inl rfl) ?_
    exact ⟨by rw [bz_0 (fun z => z.1 c1)], rfl⟩
  · refine w_iload_n (q := 5) aX3_isHearer_4 rfl rfl ?_
    refine w_aload_n (q := 6) aX3_isHearer_5 rfl rfl ?_
    refine w_get (q := 9) aX3_isHearer_6 f_3_61 (hR.ho) rfl rfl ?_
    refine w_ic_ge (t := 16) (q := 12) aX3_isHearer_9 (by decide) rfl (fun c9 => ?_) (fun c9 => ?_)
    · refine w_iconst (v := 0) (q := 17) aX3_isHearer_16 rfl rfl ?_
      refine w_zret aX3_isHearer_17 rfl (Or.inl rfl) ?_
      exact ⟨by rw [bz_0 (fun z => k2_nlt c9 z.2)], rfl⟩
    · refine w_iconst (v := 1) (q := 13) aX3_isHearer_12 rfl rfl ?_
      refine w_goto (t := 17) aX3_isHearer_13 (by decide) ?_
      refine w_zret aX3_isHearer_17 rfl (Or.inr rfl) ?_
      exact ⟨by rw [bz_1 ⟨c1, k2_lt c9⟩], rfl⟩
abbrev m_met (e : Int32) : Prop := e = 1 ∨ e = 2 ∨ e = 3 ∨ e = 4
theorem c_canBeMet {F : Nat} {h : mm_H} {x : Int32} : mW none F mX3_canBeMet 0 [(0, .int x)] [] h (fun r h' => r = some (.int (bz (m_met x))) ∧ h = h') := by
  refine w_iload_n (q := 1) aX3_canBeMet_0 rfl rfl ?_
  refine w_iconst (v := 1) (q := 2) aX3_canBeMet_1 rfl rfl ?_
  refine w_ic_eq (t := 20) (q := 5) aX3_canBeMet_2 (by decide) rfl (fun c2 => ?_) (fun c2 => ?_)
  · refine w_iconst (v := 1) (q := 21) aX3_canBeMet_20 rfl rfl ?_
    refine w_goto (t := 25) aX3_canBeMet_21 (by decide) ?_
    refine w_zret aX3_canBeMet_25 rfl (Or.inr rfl) ?_
    exact ⟨by rw [bz_1 (Or.inl c2)], rfl⟩
  · refine w_iload_n (q := 6) aX3_canBeMet_5 rfl rfl ?_
    refine w_iconst (v := 2) (q := 7) aX3_canBeMet_6 rfl rfl ?_
    refine w_ic_eq (t := 20) (q := 10) aX3_canBeMet_7 (by decide) rfl (fun c7 => ?_) (fun c7 => ?_)
    · refine w_iconst (v := 1) (q := 21) aX3_canBeMet_20 rfl rfl ?_
      refine w_goto (t := 25) aX3_canBeMet_21 (by decide) ?_
      refine w_zret aX3_canBeMet_25 rfl (Or.inr rfl) ?_
      exact ⟨by rw [bz_1 (Or.inr (Or.inl c7))], rfl⟩
    · refine w_iload_n (q := 11) aX3_canBeMet_10 rfl rfl ?_
      refine w_iconst (v := 3) (q := 12) aX3_canBeMet_11 rfl rfl ?_
      refine w_ic_eq (t := 20) (q := 15) aX3_canBeMet_12 (by decide) rfl (fun c12 => ?_) (fun c12 => ?_)
      · refine w_iconst (v := 1) (q := 21) aX3_canBeMet_20 rfl rfl ?_
        refine w_goto (t := 25) aX3_canBeMet_21 (by decide) ?_
        refine w_zret aX3_canBeMet_25 rfl (Or.inr rfl) ?_
        exact ⟨by rw [bz_1 (Or.inr (Or.inr (Or.inl c12)))], rfl⟩
      · refine w_iload_n (q := 16) aX3_canBeMet_15 rfl rfl ?_
        refine w_iconst (v := 4) (q := 17) aX3_canBeMet_16 rfl rfl ?_
        refine w_ic_ne (t := 24) (q := 20) aX3_canBeMet_17 (by decide) rfl (fun c17 => ?_) (fun c17 => ?_)
        · refine w_iconst (v := 0) (q := 25) aX3_canBeMet_24 rfl rfl ?_
          refine w_zret aX3_canBeMet_25 rfl (Or.inl rfl) ?_
          exact ⟨by rw [bz_0 (fun z => by rcases z with z | z | z | z <;> contradiction)], rfl⟩
        · refine w_iconst (v := 1) (q := 21) aX3_canBeMet_20 rfl rfl ?_
          refine w_goto (t := 25) aX3_canBeMet_21 (by decide) ?_
          refine w_zret aX3_canBeMet_25 rfl (Or.inr rfl) ?_
          exact ⟨by rw [bz_1 (Or.inr (Or.inr (Or.inr c17)))], rfl⟩
theorem c_wellIfStopped {F : Nat} {h : mm_H} {x : Int32} : mW none F mX3_wellIfStopped 0 [(0, .int x)] [] h (fun r h' => r = some (.int (if x = 7 then 0 else x)) ∧ h = h') := by
  refine w_iload_n (q := 1) aX3_wellIfStopped_0 rfl rfl ?_
  refine w_bipush (v := 7) (q := 3) aX3_wellIfStopped_1 rfl rfl ?_
  refine w_ic_ne (t := 10) (q := 6) aX3_wellIfStopped_3 (by decide) rfl (fun c3 => ?_) (fun c3 => ?_)
  · refine w_iload_n (q := 11) aX3_wellIfStopped_10 rfl rfl ?_
    refine w_iret aX3_wellIfStopped_11 rfl ?_
    exact ⟨by rw [if_neg c3], rfl⟩
  · refine w_iconst (v := 0) (q := 7) aX3_wellIfStopped_6 rfl rfl ?_
    refine w_goto (t := 11) aX3_wellIfStopped_7 (by decide) ?_
    refine w_iret aX3_wellIfStopped_11 rfl ?_
    exact ⟨by rw [if_pos c3], rfl⟩
theorem AR_lit {a : Nat} (h : 1 ≤ a ∧ a < 32 ∧ ¬ (10 ≤ a ∧ a < 18)) : AR a := ⟨Or.inl ⟨h.1, h.2.1⟩, h.2.2⟩
theorem c_tally {F : Nat} {h : mm_H} {S : St} {k : Int32} {v : Int64} (hR : RC S h) : mW none (F + 1) mX3_tally 0 [(0, .ref 1), (1, .int k), (2, .long v)] [] h (cP (p_tally S k v) h) := by
  refine w_iload_n (q := 1) aX3_tally_0 rfl rfl ?_
  refine w_i2l (q := 2) aX3_tally_1 rfl ?_
  refine w_callS aX3_tally_2 x_3_45 t_3_45 (rfl) (c_isTally) (fun r2 h2 hp => ?_)
  obtain ⟨rfl, rfl⟩ := hp
  refine w_if_ne (t := 11) (q := 8) aX3_tally_5 (by decide) rfl (fun c5 => ?_) (fun c5 => ?_)
  · have hk := (rL_of k).mp (bz_ne0 c5)
    obtain ⟨j, hj, rfl⟩ := rN_of (by omega) hk
    refine w_aload_n (q := 12) aX3_tally_11 rfl rfl ?_
    refine w_get (q := 15) aX3_tally_12 f_3_9 (hR.ho) rfl rfl ?_
    refine w_iload_n (q := 16) aX3_tally_15 rfl rfl ?_
    refine w_lload_n (q := 17) aX3_tally_16 rfl rfl ?_
    refine w_last (q := 18) (n := j) (vs' := _) aX3_tally_17 (hR.ta) (rfl) (by rw [rg_len]; exact hj) (by rw [rg_len]; omega) (rg_set _ _ _ _) rfl ?_
    refine w_iconst (v := 1) (q := 19) aX3_tally_18 rfl rfl ?_
    refine w_iret aX3_tally_19 rfl ?_
    unfold p_tally
    rw [if_pos hk, nI_clamp (by omega)]
    exact ⟨rfl, hR.upTa (by rw [fu_map Value.long]), fr.rf.up (AR_lit (by omega))⟩
  · have hk : ¬ rN 8 k := fun z => bz_eq0 c5 ((rL_of k).mpr z)
    refine w_bipush (v := -2) (q := 10) aX3_tally_8 rfl rfl ?_
    refine w_iret aX3_tally_10 rfl ?_
    unfold p_tally
    rw [if_neg hk]
    exact ⟨rfl, hR, fr.rf⟩
theorem c_get {F : Nat} {h : mm_H} {S : St} {k : Int32} (hR : RC S h) : mW none (F + 1) mX3_get 0 [(0, .ref 1), (1, .int k)] [] h (fun r h' => r = some (.long (p_get S k)) ∧ h = h') := by
  refine w_iload_n (q := 1) aX3_get_0 rfl rfl ?_
  refine w_i2l (q := 2) aX3_get_1 rfl ?_
  refine w_callS aX3_get_2 x_3_45 t_3_45 (rfl) (c_isTally) (fun r2 h2 hp => ?_)
  obtain ⟨rfl, rfl⟩ := hp
  refine w_if_eq (t := 17) (q := 8) aX3_get_5 (by decide) rfl (fun c5 => ?_) (fun c5 => ?_)
  · have hk : ¬ rN 8 k := fun z => bz_eq0 c5 ((rL_of k).mpr z)
    refine w_lconst (v := 0) (q := 18) aX3_get_17 rfl rfl ?_
    refine w_lret aX3_get_18 rfl ?_
    unfold p_get
    rw [if_neg hk]
    exact ⟨rfl, rfl⟩
  · have hk := (rL_of k).mp (bz_ne0 c5)
    obtain ⟨j, hj, rfl⟩ := rN_of (by omega) hk
    refine w_aload_n (q := 9) aX3_get_8 rfl rfl ?_
    refine w_get (q := 12) aX3_get_9 f_3_9 (hR.ho) rfl rfl ?_
    refine w_iload_n (q := 13) aX3_get_12 rfl rfl ?_
    refine w_lald (q := 14) aX3_get_13 (hR.ta) (mm_ix_at (n := j) rfl (by omega) (rg_at hj)) rfl ?_
    refine w_goto (t := 18) aX3_get_14 (by decide) ?_
    refine w_lret aX3_get_18 rfl ?_
    unfold p_get
    rw [if_pos hk, nI_clamp (by omega)]
    exact ⟨rfl, rfl⟩
theorem c_way {F : Nat} {h : mm_H} {S : St} {b w : Int32} (hR : RC S h) : mW none (F + 1) mX3_way 0 [(0, .ref 1), (1, .int b), (2, .int w)] [] h (cP (p_way S b w) h) := by
  have bad : (¬ rN 6 b ∨ (¬ w = 0 ∧ ¬ w = 1)) → mW none (F + 1) mX3_way 16 [(0, .ref 1), (1, .int b), (2, .int w)] [] h (cP (p_way S b w) h) := fun hn => by
    refine w_bipush (v := -2) (q := 18) aX3_way_16 rfl rfl ?_
    refine w_iret aX3_way_18 rfl ?_
    unfold p_way
    rw [if_neg (fun z => hn.elim (fun q => q z.1) (fun q => z.2.elim q.1 q.2))]
    exact ⟨rfl, hR, fr.rf⟩
  have good : rN 6 b → (w = 0 ∨ w = 1) → mW none (F + 1) mX3_way 19 [(0, .ref 1), (1, .int b), (2, .int w)] [] h (cP (p_way S b w) h) := fun hb hw => by
    unfold p_way
    rw [if_pos ⟨hb, hw⟩]
    obtain ⟨j, hj, rfl⟩ := rN_of (by omega) hb
    rw [nI_clamp (by omega)]
    obtain ⟨g, hg⟩ := hR.bel hj
    refine w_aload_n (q := 20) aX3_way_19 rfl rfl ?_
    refine w_get (q := 23) aX3_way_20 f_3_15 (hR.ho) rfl rfl ?_
    refine w_iload_n (q := 24) aX3_way_23 rfl rfl ?_
    refine w_aald (q := 25) aX3_way_24 (hR.be) (by decide) (mm_ix_at (n := j) rfl (by omega) (rg_at hj)) rfl ?_
    refine w_get (q := 28) aX3_way_25 f_3_53 (hg.1) rfl rfl ?_
    refine w_istore_n (q := 29) (ls' := [(3, _), (0, _), (1, _), (2, _)]) aX3_way_28 (by decide) rfl rfl ?_
    refine w_aload_n (q := 30) aX3_way_29 rfl rfl ?_
    refine w_get (q := 33) aX3_way_30 f_3_15 (hR.ho) rfl rfl ?_
    refine w_iload_n (q := 34) aX3_way_33 rfl rfl ?_
    refine w_aald (q := 35) aX3_way_34 (hR.be) (by decide) (mm_ix_at (n := j) rfl (by omega) (rg_at hj)) rfl ?_
    refine w_iload_n (q := 36) aX3_way_35 rfl rfl ?_
    refine w_put (q := 39) (fs' := [_, _, _]) aX3_way_36 f_3_53 (hg.1) (Nat.le_of_ble_eq_true rfl) rfl rfl (Or.inl rfl) rfl rfl ?_
    refine w_iload_n (q := 40) aX3_way_39 rfl rfl ?_
    refine w_iret aX3_way_40 rfl ?_
    have hf : fr (fun q => q = 18 + 2 * j ∨ q = 19 + 2 * j) h (mm_up h (18 + 2 * j) (1, [.ref (19 + 2 * j), .int (nI (sL S j).length), .int w])) := fr.rf.up (Or.inl rfl)
    have hR2 := hR.upBe (l := sL S j) (w := w) hj hf ⟨g, up_s _ _ _, (up_n (by omega)).trans hg.2.1, hg.2.2⟩
    rw [fu_id] at hR2
    exact ⟨rfl, hR2, hf.mono (fun q hq => AR_lit (by omega))⟩
  refine w_iload_n (q := 1) aX3_way_0 rfl rfl ?_
  refine w_callS aX3_way_1 x_3_49 t_3_49 (rfl) (c_isBell) (fun r1 h1 hp => ?_)
  obtain ⟨rfl, rfl⟩ := hp
  refine w_if_eq (t := 16) (q := 7) aX3_way_4 (by decide) rfl (fun c4 => ?_) (fun c4 => ?_)
  · exact bad (Or.inl (bz_eq0 c4))
  · have hb := bz_ne0 c4
    refine w_iload_n (q := 8) aX3_way_7 rfl rfl ?_
    refine w_if_eq (t := 19) (q := 11) aX3_way_8 (by decide) rfl (fun c8 => ?_) (fun c8 => ?_)
    · exact good hb (Or.inl c8)
    · refine w_iload_n (q := 12) aX3_way_11 rfl rfl ?_
      refine w_iconst (v := 1) (q := 13) aX3_way_12 rfl rfl ?_
      refine w_ic_eq (t := 19) (q := 16) aX3_way_13 (by decide) rfl (fun c13 => ?_) (fun c13 => ?_)
      · exact good hb (Or.inr c13)
      · exact bad (Or.inr ⟨c8, c13⟩)
theorem c_line {F : Nat} {h : mm_H} {S : St} {b x : Int32} (hR : RC S h) : mW none (F + 1) mX3_line 0 [(0, .ref 1), (1, .int b), (2, .int x)] [] h (fun r h' => r = some (.int (p_line S b x)) ∧ h = h') := by
  unfold p_line
  refine w_iload_n (q := 1) aX3_line_0 rfl rfl ?_
  refine w_callS aX3_line_1 x_3_49 t_3_49 (rfl) (c_isBell) (fun r1 h1 hp => ?_)
  obtain ⟨rfl, rfl⟩ := hp
  refine w_if_eq (t := 20) (q := 7) aX3_line_4 (by decide) rfl (fun c4 => ?_) (fun c4 => ?_)
  · refine w_bipush (v := -2) (q := 22) aX3_line_20 rfl rfl ?_
    refine w_iret aX3_line_22 rfl ?_
    rw [if_neg (bz_eq0 c4)]
    exact ⟨rfl, rfl⟩
  · have hb := bz_ne0 c4
    rw [if_pos hb]
    obtain ⟨j, hj, rfl⟩ := rN_of (by omega) hb
    rw [nI_clamp (by omega)]
    obtain ⟨g, hg⟩ := hR.bel hj
    refine w_aload_n (q := 8) aX3_line_7 rfl rfl ?_
    refine w_get (q := 11) aX3_line_8 f_3_15 (hR.ho) rfl rfl ?_
    refine w_iload_n (q := 12) aX3_line_11 rfl rfl ?_
    refine w_aald (q := 13) aX3_line_12 (hR.be) (by decide) (mm_ix_at (n := j) rfl (by omega) (rg_at hj)) rfl ?_
    refine w_iload_n (q := 14) aX3_line_13 rfl rfl ?_
    refine w_callV aX3_line_14 t_3_97 (this_at rfl hg.1) (rfl) (c_hearerAt hg) (fun r14 h14 hp => ?_)
    obtain ⟨rfl, rfl⟩ := hp
    refine w_goto (t := 22) aX3_line_17 (by decide) ?_
    refine w_iret aX3_line_22 rfl ?_
    exact ⟨rfl, rfl⟩
theorem c_queued {F : Nat} {h : mm_H} {S : St} {x : Int32} (hR : RC S h) : mW none (F + 1) mX3_queued 0 [(0, .ref 1), (1, .int x)] [] h (fun r h' => r = some (.int (p_queued S x)) ∧ h = h') := by
  have hq := hR.qu
  have h4 : ∃ fs, h.2.2 4 = some (2, fs) := by
    obtain ⟨hd, fb, fv, h4, -⟩ := hq
    exact ⟨_, h4⟩
  obtain ⟨fs, h4⟩ := h4
  refine w_aload_n (q := 1) aX3_queued_0 rfl rfl ?_
  refine w_get (q := 4) aX3_queued_1 f_3_22 (hR.ho) rfl rfl ?_
  refine w_iload_n (q := 5) aX3_queued_4 rfl rfl ?_
  refine w_callV aX3_queued_5 t_3_100 (this_at rfl h4) (rfl) (c_bellAt hq) (fun r5 h5 hp => ?_)
  obtain ⟨rfl, rfl⟩ := hp
  refine w_iret aX3_queued_8 rfl ?_
  exact ⟨rfl, rfl⟩
theorem c_done {F : Nat} {h : mm_H} {S : St} {x : Int32} (hM : sM S ≤ 40) (hR : RC S h) : mW none (F + 1) mX3_done 0 [(0, .ref 1), (1, .int x)] [] h (fun r h' => r = some (.int (p_done S x)) ∧ h = h') := by
  unfold p_done
  refine w_aload_n (q := 1) aX3_done_0 rfl rfl ?_
  refine w_iload_n (q := 2) aX3_done_1 rfl rfl ?_
  refine w_callV aX3_done_2 t_3_64 (this_at rfl hR.ho) (rfl) (c_isHearer hR) (fun r2 h2 hp => ?_)
  obtain ⟨rfl, rfl⟩ := hp
  refine w_if_eq (t := 20) (q := 8) aX3_done_5 (by decide) rfl (fun c5 => ?_) (fun c5 => ?_)
  · refine w_bipush (v := -2) (q := 22) aX3_done_20 rfl rfl ?_
    refine w_iret aX3_done_22 rfl ?_
    rw [if_neg (bz_eq0 c5)]
    exact ⟨rfl, rfl⟩
  · have hb := bz_ne0 c5
    rw [if_pos hb]
    obtain ⟨j, hj, rfl⟩ := rN_of (by omega) hb
    rw [nI_clamp (by omega)]
    refine w_aload_n (q := 9) aX3_done_8 rfl rfl ?_
    refine w_get (q := 12) aX3_done_9 f_3_28 (hR.ho) rfl rfl ?_
    refine w_iload_n (q := 13) aX3_done_12 rfl rfl ?_
    refine w_aald (q := 14) aX3_done_13 (hR.ow) (by decide) (mm_ix_at (n := j) rfl (by omega) (rg_at (by omega))) rfl ?_
    rw [if_pos hj]
    refine w_get (q := 17) aX3_done_14 f_3_127 (hR.ac hj) rfl rfl ?_
    refine w_goto (t := 22) aX3_done_17 (by decide) ?_
    refine w_iret aX3_done_22 rfl ?_
    exact ⟨rfl, rfl⟩
end
section
theorem fr_bell {h h' : mm_H} {j : Nat} (hj : j < 6) (hf : fr (fun q => q = 18 + 2 * j ∨ q = 19 + 2 * j) h h') : fr AR h h' := hf.mono (fun q hq => AR_lit (by omega))
theorem uWL (S : St) (f : Nat → List Int32) : uW (uL S f) (sW S) = uL S f := rfl
theorem c_bind {F : Nat} {h : mm_H} {S : St} {x b : Int32} (hM : sM S ≤ 40) (hR : RC S h) : mW none (F + 2) mX3_bind 0 [(0, .ref 1), (1, .int x), (2, .int b)] [] h (cP (p_bind S x b) h) := by
  unfold p_bind
  have bad : ¬ (rN (sM S) x ∧ rN 6 b) → mW none (F + 2) mX3_bind 28 [(0, .ref 1), (1, .int x), (2, .int b)] [] h (cP (if rN (sM S) x ∧ rN 6 b then (if x ∈ sL S b.toNatClampNeg then (-1, S) else if (sL S b.toNatClampNeg).length = 12 then (-3, S) else (nI (sL S b.toNatClampNeg).length, uL S (fu (sL S) b.toNatClampNeg (sL S b.toNatClampNeg ++ [x])))) else (-2, S)) h) := fun hn => by
    rw [if_neg hn]
    refine w_bipush (v := -2) (q := 30) aX3_bind_28 rfl rfl ?_
    refine w_iret aX3_bind_30 rfl ?_
    exact ⟨rfl, hR, fr.rf⟩
  refine w_aload_n (q := 1) aX3_bind_0 rfl rfl ?_
  refine w_iload_n (q := 2) aX3_bind_1 rfl rfl ?_
  refine w_callV aX3_bind_2 t_3_64 (this_at rfl hR.ho) (rfl) (c_isHearer hR) (fun r2 h2 hp => ?_)
  obtain ⟨rfl, rfl⟩ := hp
  refine w_if_eq (t := 28) (q := 8) aX3_bind_5 (by decide) rfl (fun c5 => ?_) (fun c5 => ?_)
  · exact bad (fun z => bz_eq0 c5 z.1)
  · refine w_iload_n (q := 9) aX3_bind_8 rfl rfl ?_
    refine w_callS aX3_bind_9 x_3_49 t_3_49 (rfl) (c_isBell) (fun r9 h9 hp => ?_)
    obtain ⟨rfl, rfl⟩ := hp
    refine w_if_eq (t := 28) (q := 15) aX3_bind_12 (by decide) rfl (fun c12 => ?_) (fun c12 => ?_)
    · exact bad (fun z => bz_eq0 c12 z.2)
    · have hx := bz_ne0 c5
      have hb := bz_ne0 c12
      rw [if_pos ⟨hx, hb⟩]
      obtain ⟨j, hj, rfl⟩ := rN_of (by omega) hb
      rw [nI_clamp (by omega)]
      obtain ⟨g, hg⟩ := hR.bel hj
      refine w_aload_n (q := 16) aX3_bind_15 rfl rfl ?_
      refine w_get (q := 19) aX3_bind_16 f_3_15 (hR.ho) rfl rfl ?_
      refine w_iload_n (q := 20) aX3_bind_19 rfl rfl ?_
      refine w_aald (q := 21) aX3_bind_20 (hR.be) (by decide) (mm_ix_at (n := j) rfl (by omega) (rg_at hj)) rfl ?_
      refine w_iload_n (q := 22) aX3_bind_21 rfl rfl ?_
      refine w_callV aX3_bind_22 t_3_67 (this_at rfl hg.1) (rfl) (c_append hg) (fun r22 h22 hp => ?_)
      rcases hp with ⟨hin, rfl, rfl⟩ | ⟨hin, hl, rfl, rfl⟩ | ⟨hin, hl, rfl, hg2, hf⟩
      · refine w_goto (t := 30) aX3_bind_25 (by decide) ?_
        refine w_iret aX3_bind_30 rfl ?_
        rw [if_pos hin]
        exact ⟨rfl, hR, fr.rf⟩
      · refine w_goto (t := 30) aX3_bind_25 (by decide) ?_
        refine w_iret aX3_bind_30 rfl ?_
        rw [if_neg hin, if_pos hl]
        exact ⟨rfl, hR, fr.rf⟩
      · refine w_goto (t := 30) aX3_bind_25 (by decide) ?_
        refine w_iret aX3_bind_30 rfl ?_
        rw [if_neg hin, if_neg (by omega)]
        have hR2 := hR.upBe hj hf hg2
        rw [fu_id] at hR2
        exact ⟨rfl, hR2, fr_bell hj hf⟩
theorem c_leave {F : Nat} {h : mm_H} {S : St} {x b : Int32} (hM : sM S ≤ 40) (hR : RC S h) : mW none (F + 2) mX3_leave 0 [(0, .ref 1), (1, .int x), (2, .int b)] [] h (cP (p_leave S x b) h) := by
  unfold p_leave
  have bad : ¬ (rN (sM S) x ∧ rN 6 b) → mW none (F + 2) mX3_leave 28 [(0, .ref 1), (1, .int x), (2, .int b)] [] h (cP (if rN (sM S) x ∧ rN 6 b then (pls (sL S b.toNatClampNeg) x, uL S (fu (sL S) b.toNatClampNeg ((sL S b.toNatClampNeg).erase x))) else (-2, S)) h) := fun hn => by
    rw [if_neg hn]
    refine w_bipush (v := -2) (q := 30) aX3_leave_28 rfl rfl ?_
    refine w_iret aX3_leave_30 rfl ?_
    exact ⟨rfl, hR, fr.rf⟩
  refine w_aload_n (q := 1) aX3_leave_0 rfl rfl ?_
  refine w_iload_n (q := 2) aX3_leave_1 rfl rfl ?_
  refine w_callV aX3_leave_2 t_3_64 (this_at rfl hR.ho) (rfl) (c_isHearer hR) (fun r2 h2 hp => ?_)
  obtain ⟨rfl, rfl⟩ := hp
  refine w_if_eq (t := 28) (q := 8) aX3_leave_5 (by decide) rfl (fun c5 => ?_) (fun c5 => ?_)
  · exact bad (fun z => bz_eq0 c5 z.1)
  · refine w_iload_n (q := 9) aX3_leave_8 rfl rfl ?_
    refine w_callS aX3_leave_9 x_3_49 t_3_49 (rfl) (c_isBell) (fun r9 h9 hp => ?_)
    obtain ⟨rfl, rfl⟩ := hp
    refine w_if_eq (t := 28) (q := 15) aX3_leave_12 (by decide) rfl (fun c12 => ?_) (fun c12 => ?_)
    · exact bad (fun z => bz_eq0 c12 z.2)
    · have hx := bz_ne0 c5
      have hb := bz_ne0 c12
      rw [if_pos ⟨hx, hb⟩]
      obtain ⟨j, hj, rfl⟩ := rN_of (by omega) hb
      rw [nI_clamp (by omega)]
      obtain ⟨g, hg⟩ := hR.bel hj
      refine w_aload_n (q := 16) aX3_leave_15 rfl rfl ?_
      refine w_get (q := 19) aX3_leave_16 f_3_15 (hR.ho) rfl rfl ?_
      refine w_iload_n (q := 20) aX3_leave_19 rfl rfl ?_
      refine w_aald (q := 21) aX3_leave_20 (hR.be) (by decide) (mm_ix_at (n := j) rfl (by omega) (rg_at hj)) rfl ?_
      refine w_iload_n (q := 22) aX3_leave_21 rfl rfl ?_
      refine w_callV aX3_leave_22 t_3_71 (this_at rfl hg.1) (rfl) (c_remove hg) (fun r22 h22 hp => ?_)
      obtain ⟨rfl, hg2, hf⟩ := hp
      refine w_goto (t := 30) aX3_leave_25 (by decide) ?_
      refine w_iret aX3_leave_30 rfl ?_
      have hR2 := hR.upBe hj hf hg2
      rw [fu_id] at hR2
      exact ⟨rfl, hR2, fr_bell hj hf⟩
theorem fu_va {f : Nat → Option Nat} {i : Nat} {o : Option Nat} : fu (fun j => va_rf ((f j).map aa)) i (va_rf (o.map aa)) = fun j => va_rf ((fu f i o j).map aa) := fu_map (fun z : Option Nat => va_rf (z.map aa)) f i o
theorem c_take {F : Nat} {h : mm_H} {S : St} {x : Int32} (hM : sM S ≤ 40) (hR : RC S h) : mW none (F + 1) mX3_take 0 [(0, .ref 1), (1, .int x)] [] h (cP (p_take S x) h) := by
  unfold p_take
  refine w_aload_n (q := 1) aX3_take_0 rfl rfl ?_
  refine w_iload_n (q := 2) aX3_take_1 rfl rfl ?_
  refine w_callV aX3_take_2 t_3_64 (this_at rfl hR.ho) (rfl) (c_isHearer hR) (fun r2 h2 hp => ?_)
  obtain ⟨rfl, rfl⟩ := hp
  refine w_if_ne (t := 11) (q := 8) aX3_take_5 (by decide) rfl (fun c5 => ?_) (fun c5 => ?_)
  · have hx := bz_ne0 c5
    rw [if_pos hx]
    obtain ⟨j, hj, rfl⟩ := rN_of (by omega) hx
    rw [nI_clamp (by omega)]
    have fin : ∀ y : Int32, y = (if sH S j = none then 0 else 1) → mW none (F + 1) mX3_take 25 [(0, .ref 1), (1, .int (nI j))] [.int y] h (cP ((if sH S j = none then 0 else 1), uH S (fu (sH S) j none)) h) := fun y hy => by
      refine w_istore_n (q := 26) (ls' := [(2, _), (0, _), (1, _)]) aX3_take_25 (by decide) rfl rfl ?_
      refine w_aload_n (q := 27) aX3_take_26 rfl rfl ?_
      refine w_get (q := 30) aX3_take_27 f_3_32 (hR.ho) rfl rfl ?_
      refine w_iload_n (q := 31) aX3_take_30 rfl rfl ?_
      refine w_null (q := 32) aX3_take_31 rfl ?_
      refine w_aast (q := 33) (ci := 0) (n := j) aX3_take_32 (hR.ha) (by decide) (rfl) (rfl) (by rw [rg_len]; omega) (by rw [rg_len]; omega) (rg_set _ _ _ _) rfl ?_
      refine w_iload_n (q := 34) aX3_take_33 rfl rfl ?_
      refine w_iret aX3_take_34 rfl ?_
      exact ⟨by rw [hy], hR.upHa (fu_va (o := none) ▸ rfl), fr.rf.up (AR_lit (by omega))⟩
    refine w_aload_n (q := 12) aX3_take_11 rfl rfl ?_
    refine w_get (q := 15) aX3_take_12 f_3_32 (hR.ho) rfl rfl ?_
    refine w_iload_n (q := 16) aX3_take_15 rfl rfl ?_
    refine w_aald (q := 17) aX3_take_16 (hR.ha) (by decide) (mm_ix_at (n := j) rfl (by omega) (rg_at (by omega))) rfl ?_
    refine w_nonnull (t := 24) (q := 20) aX3_take_17 (by decide) rfl (fun v17 c17 => ?_) (fun c17 => ?_)
    · have hs : ¬ sH S j = none := fun z => by rw [z] at c17; cases c17
      refine w_iconst (v := 1) (q := 25) aX3_take_24 rfl rfl ?_
      exact fin 1 (by rw [if_neg hs])
    · have hs : sH S j = none := by
        cases hh : sH S j with
        | none => rfl
        | some k => rw [hh] at c17; cases c17
      refine w_iconst (v := 0) (q := 21) aX3_take_20 rfl rfl ?_
      refine w_goto (t := 25) aX3_take_21 (by decide) ?_
      exact fin 0 (by rw [if_pos hs])
  · rw [if_neg (bz_eq0 c5)]
    refine w_bipush (v := -2) (q := 10) aX3_take_8 rfl rfl ?_
    refine w_iret aX3_take_10 rfl ?_
    exact ⟨rfl, hR, fr.rf⟩
theorem okv_act {S : St} {h : mm_H} (hR : RC S h) {o : Option Nat} (ho : ∀ k, o = some k → k < sM S) : mm_okv h 0 (va_rf (o.map aa)) = true := by
  cases o with
  | none => rfl
  | some k =>
    show (match h.2.2 (aa k) with | some c => c.1 == 0 | none => false) = true
    rw [hR.ac (ho k rfl)]
    rfl
theorem c_lend {F : Nat} {h : mm_H} {S : St} {x y : Int32} (hM : sM S ≤ 40) (hH : ∀ j k, sH S j = some k → k < sM S) (hR : RC S h) : mW none (F + 1) mX3_lend 0 [(0, .ref 1), (1, .int x), (2, .int y)] [] h (cP (p_lend S x y) h) := by
  unfold p_lend
  have bad : ¬ (rN (sM S) x ∧ rN (sM S) y) → mW none (F + 1) mX3_lend 16 [(0, .ref 1), (1, .int x), (2, .int y)] [] h (cP (if rN (sM S) x ∧ rN (sM S) y then (1, uH S (fu (sH S) x.toNatClampNeg (sH S y.toNatClampNeg))) else (-2, S)) h) := fun hn => by
    rw [if_neg hn]
    refine w_bipush (v := -2) (q := 18) aX3_lend_16 rfl rfl ?_
    refine w_iret aX3_lend_18 rfl ?_
    exact ⟨rfl, hR, fr.rf⟩
  refine w_aload_n (q := 1) aX3_lend_0 rfl rfl ?_
  refine w_iload_n (q := 2) aX3_lend_1 rfl rfl ?_
  refine w_callV aX3_lend_2 t_3_64 (this_at rfl hR.ho) (rfl) (c_isHearer hR) (fun r2 h2 hp => ?_)
  obtain ⟨rfl, rfl⟩ := hp
  refine w_if_eq (t := 16) (q := 8) aX3_lend_5 (by decide) rfl (fun c5 => ?_) (fun c5 => ?_)
  · exact bad (fun z => bz_eq0 c5 z.1)
  · refine w_aload_n (q := 9) aX3_lend_8 rfl rfl ?_
    refine w_iload_n (q := 10) aX3_lend_9 rfl rfl ?_
    refine w_callV aX3_lend_10 t_3_64 (this_at rfl hR.ho) (rfl) (c_isHearer hR) (fun r10 h10 hp => ?_)
    obtain ⟨rfl, rfl⟩ := hp
    refine w_if_ne (t := 19) (q := 16) aX3_lend_13 (by decide) rfl (fun c13 => ?_) (fun c13 => ?_)
    · have hx := bz_ne0 c5
      have hy := bz_ne0 c13
      rw [if_pos ⟨hx, hy⟩]
      obtain ⟨j, hj, rfl⟩ := rN_of (by omega) hx
      obtain ⟨i, hi, rfl⟩ := rN_of (by omega) hy
      rw [nI_clamp (by omega), nI_clamp (by omega)]
      refine w_aload_n (q := 20) aX3_lend_19 rfl rfl ?_
      refine w_get (q := 23) aX3_lend_20 f_3_32 (hR.ho) rfl rfl ?_
      refine w_iload_n (q := 24) aX3_lend_23 rfl rfl ?_
      refine w_aload_n (q := 25) aX3_lend_24 rfl rfl ?_
      refine w_get (q := 28) aX3_lend_25 f_3_32 (hR.ho) rfl rfl ?_
      refine w_iload_n (q := 29) aX3_lend_28 rfl rfl ?_
      refine w_aald (q := 30) aX3_lend_29 (hR.ha) (by decide) (mm_ix_at (n := i) rfl (by omega) (rg_at (by omega))) rfl ?_
      refine w_aast (q := 31) (ci := 0) (n := j) aX3_lend_30 (hR.ha) (by decide) (okv_act hR (hH i)) (rfl) (by rw [rg_len]; omega) (by rw [rg_len]; omega) (rg_set _ _ _ _) rfl ?_
      refine w_iconst (v := 1) (q := 32) aX3_lend_31 rfl rfl ?_
      refine w_iret aX3_lend_32 rfl ?_
      exact ⟨rfl, hR.upHa (by rw [fu_va]), fr.rf.up (AR_lit (by omega))⟩
    · exact bad (fun z => bz_eq0 c13 z.2)
end
section
theorem rN_out {n : Nat} {x : Int32} {hi : Int} (h : ¬ rN (n + 1) x) (hn : n + 1 < 2 ^ 31 := by decide) (he : hi = (n : Int) := by rfl) : x.toInt < 0 ∨ hi < x.toInt := by
  by_cases h0 : x < 0
  · exact Or.inl (by rw [Int32.lt_iff_toInt_lt] at h0; exact h0)
  · refine Or.inr ?_
    have h1 : ¬ x < nI (n + 1) := fun z => h ⟨h0, z⟩
    rw [Int32.lt_iff_toInt_lt, nI_toInt hn] at h1
    omega
theorem c_count {F : Nat} {h : mm_H} {S : St} {x : Int32} (hR : RC S h) : mW none F mX3_count 0 [(0, .ref 1), (1, .int x)] [] h (fun r h' => r = some (.int (p_count S x)) ∧ h = h') := by
  unfold p_count
  refine w_iload_n (q := 1) aX3_count_0 rfl rfl ?_
  by_cases hx : rN 10 x
  · rw [if_pos hx]
    obtain ⟨j, hj, rfl⟩ := rN_of (by omega) hx
    have hcs : j = 0 ∨ j = 1 ∨ j = 2 ∨ j = 3 ∨ j = 4 ∨ j = 5 ∨ j = 6 ∨ j = 7 ∨ j = 8 ∨ j = 9 := by omega
    rcases hcs with rfl | rfl | rfl | rfl | rfl | rfl | rfl | rfl | rfl | rfl
    · refine w_table (t := 56) (o := 55) aX3_count_1 (by skip; decide) (by skip; decide) (by skip; rfl) (by decide) ?_
      refine w_aload_n (q := 57) aX3_count_56 rfl rfl ?_
      refine w_get (q := 60) aX3_count_57 f_3_61 (hR.ho) rfl rfl ?_
      refine w_iret aX3_count_60 rfl ?_
      exact ⟨rfl, rfl⟩
    · refine w_table (t := 61) (o := 60) aX3_count_1 (by skip; decide) (by skip; decide) (by skip; rfl) (by decide) ?_
      refine w_aload_n (q := 62) aX3_count_61 rfl rfl ?_
      refine w_get (q := 65) aX3_count_62 f_3_103 (hR.ho) rfl rfl ?_
      refine w_iret aX3_count_65 rfl ?_
      exact ⟨rfl, rfl⟩
    · refine w_table (t := 66) (o := 65) aX3_count_1 (by skip; decide) (by skip; decide) (by skip; rfl) (by decide) ?_
      refine w_aload_n (q := 67) aX3_count_66 rfl rfl ?_
      refine w_get (q := 70) aX3_count_67 f_3_106 (hR.ho) rfl rfl ?_
      refine w_iret aX3_count_70 rfl ?_
      exact ⟨rfl, rfl⟩
    · refine w_table (t := 71) (o := 70) aX3_count_1 (by skip; decide) (by skip; decide) (by skip; rfl) (by decide) ?_
      refine w_aload_n (q := 72) aX3_count_71 rfl rfl ?_
      refine w_get (q := 75) aX3_count_72 f_3_109 (hR.ho) rfl rfl ?_
      refine w_iret aX3_count_75 rfl ?_
      exact ⟨rfl, rfl⟩
    · refine w_table (t := 76) (o := 75) aX3_count_1 (by skip; decide) (by skip; decide) (by skip; rfl) (by decide) ?_
      refine w_aload_n (q := 77) aX3_count_76 rfl rfl ?_
      refine w_get (q := 80) aX3_count_77 f_3_112 (hR.ho) rfl rfl ?_
      refine w_iret aX3_count_80 rfl ?_
      exact ⟨rfl, rfl⟩
    · refine w_table (t := 81) (o := 80) aX3_count_1 (by skip; decide) (by skip; decide) (by skip; rfl) (by decide) ?_
      refine w_aload_n (q := 82) aX3_count_81 rfl rfl ?_
      refine w_get (q := 85) aX3_count_82 f_3_115 (hR.ho) rfl rfl ?_
      refine w_iret aX3_count_85 rfl ?_
      exact ⟨rfl, rfl⟩
    · refine w_table (t := 86) (o := 85) aX3_count_1 (by skip; decide) (by skip; decide) (by skip; rfl) (by decide) ?_
      refine w_aload_n (q := 87) aX3_count_86 rfl rfl ?_
      refine w_get (q := 90) aX3_count_87 f_3_118 (hR.ho) rfl rfl ?_
      refine w_iret aX3_count_90 rfl ?_
      exact ⟨rfl, rfl⟩
    · refine w_table (t := 91) (o := 90) aX3_count_1 (by skip; decide) (by skip; decide) (by skip; rfl) (by decide) ?_
      obtain ⟨hd, fb, fv, h4, -⟩ := hR.qu
      refine w_aload_n (q := 92) aX3_count_91 rfl rfl ?_
      refine w_get (q := 95) aX3_count_92 f_3_22 (hR.ho) rfl rfl ?_
      refine w_get (q := 98) aX3_count_95 f_3_121 (h4) rfl rfl ?_
      refine w_iret aX3_count_98 rfl ?_
      exact ⟨rfl, rfl⟩
    · refine w_table (t := 99) (o := 98) aX3_count_1 (by skip; decide) (by skip; decide) (by skip; rfl) (by decide) ?_
      refine w_aload_n (q := 100) aX3_count_99 rfl rfl ?_
      refine w_get (q := 103) aX3_count_100 f_3_124 (hR.ho) rfl rfl ?_
      refine w_iret aX3_count_103 rfl ?_
      exact ⟨rfl, rfl⟩
    · refine w_table (t := 104) (o := 103) aX3_count_1 (by skip; decide) (by skip; decide) (by skip; rfl) (by decide) ?_
      refine w_aload_n (q := 105) aX3_count_104 rfl rfl ?_
      refine w_get (q := 108) aX3_count_105 f_3_74 (hR.ho) rfl rfl ?_
      refine w_iret aX3_count_108 rfl ?_
      exact ⟨rfl, rfl⟩
  · rw [if_neg hx]
    refine w_tableD (t := 109) aX3_count_1 (rN_out hx) (by decide) ?_
    refine w_bipush (v := -2) (q := 111) aX3_count_109 rfl rfl ?_
    refine w_iret aX3_count_111 rfl ?_
    exact ⟨rfl, rfl⟩
theorem bz_iff {p q : Prop} [Decidable p] [Decidable q] (e : p ↔ q) : bz p = bz q := by
  by_cases h : p
  · rw [bz_1 h, bz_1 (e.mp h)]
  · rw [bz_0 h, bz_0 (fun z => h (e.mpr z))]
/-- what hearers can be made -/
abbrev p_can (m : Nat) (s a b : Int32) : Prop := (rN 4 s ∧ rN 8 a) ∨ s = 4 ∨ s = 7 ∨ ((s = 5 ∨ s = 6) ∧ rN 6 a) ∨ ((s = 8 ∨ s = 9 ∨ s = 13) ∧ rN m a) ∨ ((s = 10 ∨ s = 12) ∧ rN m a ∧ rN 8 b) ∨ (s = 11 ∧ rN m a ∧ rN m b) ∨ (s = 14 ∧ rN m a ∧ rN 6 b)
theorem can_0 {m : Nat} {a b : Int32} : (rN 8 a) ↔ p_can m (nI 0) a b := by
  unfold p_can
  simp only [eq_true (show rN 4 (nI 0) by decide), eq_false (show ¬ (nI 0 = 4) by decide), eq_false (show ¬ (nI 0 = 7) by decide), eq_false (show ¬ (nI 0 = 5) by decide), eq_false (show ¬ (nI 0 = 6) by decide), eq_false (show ¬ (nI 0 = 8) by decide), eq_false (show ¬ (nI 0 = 9) by decide), eq_false (show ¬ (nI 0 = 13) by decide), eq_false (show ¬ (nI 0 = 10) by decide), eq_false (show ¬ (nI 0 = 12) by decide), eq_false (show ¬ (nI 0 = 11) by decide), eq_false (show ¬ (nI 0 = 14) by decide), true_and, false_and, false_or, or_false, true_or, or_true]
theorem can_1 {m : Nat} {a b : Int32} : (rN 8 a) ↔ p_can m (nI 1) a b := by
  unfold p_can
  simp only [eq_true (show rN 4 (nI 1) by decide), eq_false (show ¬ (nI 1 = 4) by decide), eq_false (show ¬ (nI 1 = 7) by decide), eq_false (show ¬ (nI 1 = 5) by decide), eq_false (show ¬ (nI 1 = 6) by decide), eq_false (show ¬ (nI 1 = 8) by decide), eq_false (show ¬ (nI 1 = 9) by decide), eq_false (show ¬ (nI 1 = 13) by decide), eq_false (show ¬ (nI 1 = 10) by decide), eq_false (show ¬ (nI 1 = 12) by decide), eq_false (show ¬ (nI 1 = 11) by decide), eq_false (show ¬ (nI 1 = 14) by decide), true_and, false_and, false_or, or_false, true_or, or_true]
theorem can_2' {m : Nat} {a b : Int32} : (rN 8 a) ↔ p_can m (nI 2) a b := by
  unfold p_can
  simp only [eq_true (show rN 4 (nI 2) by decide), eq_false (show ¬ (nI 2 = 4) by decide), eq_false (show ¬ (nI 2 = 7) by decide), eq_false (show ¬ (nI 2 = 5) by decide), eq_false (show ¬ (nI 2 = 6) by decide), eq_false (show ¬ (nI 2 = 8) by decide), eq_false (show ¬ (nI 2 = 9) by decide), eq_false (show ¬ (nI 2 = 13) by decide), eq_false (show ¬ (nI 2 = 10) by decide), eq_false (show ¬ (nI 2 = 12) by decide), eq_false (show ¬ (nI 2 = 11) by decide), eq_false (show ¬ (nI 2 = 14) by decide), true_and, false_and, false_or, or_false, true_or, or_true]
theorem can_3 {m : Nat} {a b : Int32} : (rN 8 a) ↔ p_can m (nI 3) a b := by
  unfold p_can
  simp only [eq_true (show rN 4 (nI 3) by decide), eq_false (show ¬ (nI 3 = 4) by decide), eq_false (show ¬ (nI 3 = 7) by decide), eq_false (show ¬ (nI 3 = 5) by decide), eq_false (show ¬ (nI 3 = 6) by decide), eq_false (show ¬ (nI 3 = 8) by decide), eq_false (show ¬ (nI 3 = 9) by decide), eq_false (show ¬ (nI 3 = 13) by decide), eq_false (show ¬ (nI 3 = 10) by decide), eq_false (show ¬ (nI 3 = 12) by decide), eq_false (show ¬ (nI 3 = 11) by decide), eq_false (show ¬ (nI 3 = 14) by decide), true_and, false_and, false_or, or_false, true_or, or_true]
theorem can_4 {m : Nat} {a b : Int32} : p_can m (nI 4) a b := by
  unfold p_can
  simp only [eq_true (show (nI 4 = 4) by decide), eq_false (show ¬ rN 4 (nI 4) by decide), eq_false (show ¬ (nI 4 = 7) by decide), eq_false (show ¬ (nI 4 = 5) by decide), eq_false (show ¬ (nI 4 = 6) by decide), eq_false (show ¬ (nI 4 = 8) by decide), eq_false (show ¬ (nI 4 = 9) by decide), eq_false (show ¬ (nI 4 = 13) by decide), eq_false (show ¬ (nI 4 = 10) by decide), eq_false (show ¬ (nI 4 = 12) by decide), eq_false (show ¬ (nI 4 = 11) by decide), eq_false (show ¬ (nI 4 = 14) by decide), true_and, false_and, false_or, or_false, true_or, or_true]
theorem can_5 {m : Nat} {a b : Int32} : (rN 6 a) ↔ p_can m (nI 5) a b := by
  unfold p_can
  simp only [eq_true (show (nI 5 = 5) by decide), eq_false (show ¬ rN 4 (nI 5) by decide), eq_false (show ¬ (nI 5 = 4) by decide), eq_false (show ¬ (nI 5 = 7) by decide), eq_false (show ¬ (nI 5 = 6) by decide), eq_false (show ¬ (nI 5 = 8) by decide), eq_false (show ¬ (nI 5 = 9) by decide), eq_false (show ¬ (nI 5 = 13) by decide), eq_false (show ¬ (nI 5 = 10) by decide), eq_false (show ¬ (nI 5 = 12) by decide), eq_false (show ¬ (nI 5 = 11) by decide), eq_false (show ¬ (nI 5 = 14) by decide), true_and, false_and, false_or, or_false, true_or, or_true]
theorem can_6 {m : Nat} {a b : Int32} : (rN 6 a) ↔ p_can m (nI 6) a b := by
  unfold p_can
  simp only [eq_true (show (nI 6 = 6) by decide), eq_false (show ¬ rN 4 (nI 6) by decide), eq_false (show ¬ (nI 6 = 4) by decide), eq_false (show ¬ (nI 6 = 7) by decide), eq_false (show ¬ (nI 6 = 5) by decide), eq_false (show ¬ (nI 6 = 8) by decide), eq_false (show ¬ (nI 6 = 9) by decide), eq_false (show ¬ (nI 6 = 13) by decide), eq_false (show ¬ (nI 6 = 10) by decide), eq_false (show ¬ (nI 6 = 12) by decide), eq_false (show ¬ (nI 6 = 11) by decide), eq_false (show ¬ (nI 6 = 14) by decide), true_and, false_and, false_or, or_false, true_or, or_true]
theorem can_7 {m : Nat} {a b : Int32} : p_can m (nI 7) a b := by
  unfold p_can
  simp only [eq_true (show (nI 7 = 7) by decide), eq_false (show ¬ rN 4 (nI 7) by decide), eq_false (show ¬ (nI 7 = 4) by decide), eq_false (show ¬ (nI 7 = 5) by decide), eq_false (show ¬ (nI 7 = 6) by decide), eq_false (show ¬ (nI 7 = 8) by decide), eq_false (show ¬ (nI 7 = 9) by decide), eq_false (show ¬ (nI 7 = 13) by decide), eq_false (show ¬ (nI 7 = 10) by decide), eq_false (show ¬ (nI 7 = 12) by decide), eq_false (show ¬ (nI 7 = 11) by decide), eq_false (show ¬ (nI 7 = 14) by decide), true_and, false_and, false_or, or_false, true_or, or_true]
theorem can_8' {m : Nat} {a b : Int32} : (rN m a) ↔ p_can m (nI 8) a b := by
  unfold p_can
  simp only [eq_true (show (nI 8 = 8) by decide), eq_false (show ¬ rN 4 (nI 8) by decide), eq_false (show ¬ (nI 8 = 4) by decide), eq_false (show ¬ (nI 8 = 7) by decide), eq_false (show ¬ (nI 8 = 5) by decide), eq_false (show ¬ (nI 8 = 6) by decide), eq_false (show ¬ (nI 8 = 9) by decide), eq_false (show ¬ (nI 8 = 13) by decide), eq_false (show ¬ (nI 8 = 10) by decide), eq_false (show ¬ (nI 8 = 12) by decide), eq_false (show ¬ (nI 8 = 11) by decide), eq_false (show ¬ (nI 8 = 14) by decide), true_and, false_and, false_or, or_false, true_or, or_true]
theorem can_9 {m : Nat} {a b : Int32} : (rN m a) ↔ p_can m (nI 9) a b := by
  unfold p_can
  simp only [eq_true (show (nI 9 = 9) by decide), eq_false (show ¬ rN 4 (nI 9) by decide), eq_false (show ¬ (nI 9 = 4) by decide), eq_false (show ¬ (nI 9 = 7) by decide), eq_false (show ¬ (nI 9 = 5) by decide), eq_false (show ¬ (nI 9 = 6) by decide), eq_false (show ¬ (nI 9 = 8) by decide), eq_false (show ¬ (nI 9 = 13) by decide), eq_false (show ¬ (nI 9 = 10) by decide), eq_false (show ¬ (nI 9 = 12) by decide), eq_false (show ¬ (nI 9 = 11) by decide), eq_false (show ¬ (nI 9 = 14) by decide), true_and, false_and, false_or, or_false, true_or, or_true]
theorem can_10 {m : Nat} {a b : Int32} : (rN m a ∧ rN 8 b) ↔ p_can m (nI 10) a b := by
  unfold p_can
  simp only [eq_true (show (nI 10 = 10) by decide), eq_false (show ¬ rN 4 (nI 10) by decide), eq_false (show ¬ (nI 10 = 4) by decide), eq_false (show ¬ (nI 10 = 7) by decide), eq_false (show ¬ (nI 10 = 5) by decide), eq_false (show ¬ (nI 10 = 6) by decide), eq_false (show ¬ (nI 10 = 8) by decide), eq_false (show ¬ (nI 10 = 9) by decide), eq_false (show ¬ (nI 10 = 13) by decide), eq_false (show ¬ (nI 10 = 12) by decide), eq_false (show ¬ (nI 10 = 11) by decide), eq_false (show ¬ (nI 10 = 14) by decide), true_and, false_and, false_or, or_false, true_or, or_true]
theorem can_11 {m : Nat} {a b : Int32} : (rN m a ∧ rN m b) ↔ p_can m (nI 11) a b := by
  unfold p_can
  simp only [eq_true (show (nI 11 = 11) by decide), eq_false (show ¬ rN 4 (nI 11) by decide), eq_false (show ¬ (nI 11 = 4) by decide), eq_false (show ¬ (nI 11 = 7) by decide), eq_false (show ¬ (nI 11 = 5) by decide), eq_false (show ¬ (nI 11 = 6) by decide), eq_false (show ¬ (nI 11 = 8) by decide), eq_false (show ¬ (nI 11 = 9) by decide), eq_false (show ¬ (nI 11 = 13) by decide), eq_false (show ¬ (nI 11 = 10) by decide), eq_false (show ¬ (nI 11 = 12) by decide), eq_false (show ¬ (nI 11 = 14) by decide), true_and, false_and, false_or, or_false, true_or, or_true]
theorem can_12 {m : Nat} {a b : Int32} : (rN m a ∧ rN 8 b) ↔ p_can m (nI 12) a b := by
  unfold p_can
  simp only [eq_true (show (nI 12 = 12) by decide), eq_false (show ¬ rN 4 (nI 12) by decide), eq_false (show ¬ (nI 12 = 4) by decide), eq_false (show ¬ (nI 12 = 7) by decide), eq_false (show ¬ (nI 12 = 5) by decide), eq_false (show ¬ (nI 12 = 6) by decide), eq_false (show ¬ (nI 12 = 8) by decide), eq_false (show ¬ (nI 12 = 9) by decide), eq_false (show ¬ (nI 12 = 13) by decide), eq_false (show ¬ (nI 12 = 10) by decide), eq_false (show ¬ (nI 12 = 11) by decide), eq_false (show ¬ (nI 12 = 14) by decide), true_and, false_and, false_or, or_false, true_or, or_true]
theorem can_13 {m : Nat} {a b : Int32} : (rN m a) ↔ p_can m (nI 13) a b := by
  unfold p_can
  simp only [eq_true (show (nI 13 = 13) by decide), eq_false (show ¬ rN 4 (nI 13) by decide), eq_false (show ¬ (nI 13 = 4) by decide), eq_false (show ¬ (nI 13 = 7) by decide), eq_false (show ¬ (nI 13 = 5) by decide), eq_false (show ¬ (nI 13 = 6) by decide), eq_false (show ¬ (nI 13 = 8) by decide), eq_false (show ¬ (nI 13 = 9) by decide), eq_false (show ¬ (nI 13 = 10) by decide), eq_false (show ¬ (nI 13 = 12) by decide), eq_false (show ¬ (nI 13 = 11) by decide), eq_false (show ¬ (nI 13 = 14) by decide), true_and, false_and, false_or, or_false, true_or, or_true]
theorem can_14 {m : Nat} {a b : Int32} : (rN m a ∧ rN 6 b) ↔ p_can m (nI 14) a b := by
  unfold p_can
  simp only [eq_true (show (nI 14 = 14) by decide), eq_false (show ¬ rN 4 (nI 14) by decide), eq_false (show ¬ (nI 14 = 4) by decide), eq_false (show ¬ (nI 14 = 7) by decide), eq_false (show ¬ (nI 14 = 5) by decide), eq_false (show ¬ (nI 14 = 6) by decide), eq_false (show ¬ (nI 14 = 8) by decide), eq_false (show ¬ (nI 14 = 9) by decide), eq_false (show ¬ (nI 14 = 13) by decide), eq_false (show ¬ (nI 14 = 10) by decide), eq_false (show ¬ (nI 14 = 12) by decide), eq_false (show ¬ (nI 14 = 11) by decide), true_and, false_and, false_or, or_false, true_or, or_true]
theorem can_in {m : Nat} {s a b : Int32} (h : p_can m s a b) : rN 15 s := by
  unfold p_can at h
  rcases h with ⟨h, -⟩ | h | h | ⟨h | h, -⟩ | ⟨h | h | h, -⟩ | ⟨h | h, -⟩ | ⟨h, -⟩ | ⟨h, -⟩
  · obtain ⟨j, hj, rfl⟩ := rN_of (by omega) h
    exact rN_nI (by omega) (by omega)
  all_goals (subst h; decide)
theorem c_canBeMade {F : Nat} {h : mm_H} {S : St} {s a b : Int32} (hR : RC S h) : mW none (F + 1) mX3_canBeMade 0 [(0, .ref 1), (1, .int s), (2, .int a), (3, .int b)] [] h (fun r h' => r = some (.int (bz (p_can (sM S) s a b))) ∧ h = h') := by
  have tT : (rN 8 a ↔ p_can (sM S) s a b) → mW none (F + 1) mX3_canBeMade 76 [(0, .ref 1), (1, .int s), (2, .int a), (3, .int b)] [] h (fun r h' => r = some (.int (bz (p_can (sM S) s a b))) ∧ h = h') := fun e => by
    refine w_iload_n (q := 77) aX3_canBeMade_76 rfl rfl ?_
    refine w_i2l (q := 78) aX3_canBeMade_77 rfl ?_
    refine w_callS aX3_canBeMade_78 x_3_45 t_3_45 (rfl) (c_isTally) (fun r78 h78 hp => ?_)
    obtain ⟨rfl, rfl⟩ := hp
    refine w_zret aX3_canBeMade_81 rfl (bz_or) ?_
    exact ⟨by rw [bz_iff ((rL_of a).trans e)], rfl⟩
  have t1 : p_can (sM S) s a b → mW none (F + 1) mX3_canBeMade 82 [(0, .ref 1), (1, .int s), (2, .int a), (3, .int b)] [] h (fun r h' => r = some (.int (bz (p_can (sM S) s a b))) ∧ h = h') := fun e => by
    refine w_iconst (v := 1) (q := 83) aX3_canBeMade_82 rfl rfl ?_
    refine w_zret aX3_canBeMade_83 rfl (Or.inr rfl) ?_
    exact ⟨by rw [bz_1 e], rfl⟩
  have tB : (rN 6 a ↔ p_can (sM S) s a b) → mW none (F + 1) mX3_canBeMade 84 [(0, .ref 1), (1, .int s), (2, .int a), (3, .int b)] [] h (fun r h' => r = some (.int (bz (p_can (sM S) s a b))) ∧ h = h') := fun e => by
    refine w_iload_n (q := 85) aX3_canBeMade_84 rfl rfl ?_
    refine w_callS aX3_canBeMade_85 x_3_49 t_3_49 (rfl) (c_isBell) (fun r85 h85 hp => ?_)
    obtain ⟨rfl, rfl⟩ := hp
    refine w_zret aX3_canBeMade_88 rfl (bz_or) ?_
    exact ⟨by rw [bz_iff e], rfl⟩
  have tH : (rN (sM S) a ↔ p_can (sM S) s a b) → mW none (F + 1) mX3_canBeMade 89 [(0, .ref 1), (1, .int s), (2, .int a), (3, .int b)] [] h (fun r h' => r = some (.int (bz (p_can (sM S) s a b))) ∧ h = h') := fun e => by
    refine w_aload_n (q := 90) aX3_canBeMade_89 rfl rfl ?_
    refine w_iload_n (q := 91) aX3_canBeMade_90 rfl rfl ?_
    refine w_callV aX3_canBeMade_91 t_3_64 (this_at rfl hR.ho) (rfl) (c_isHearer hR) (fun r91 h91 hp => ?_)
    obtain ⟨rfl, rfl⟩ := hp
    refine w_zret aX3_canBeMade_94 rfl (bz_or) ?_
    exact ⟨by rw [bz_iff e], rfl⟩
  have tHT : (rN (sM S) a ∧ rN 8 b ↔ p_can (sM S) s a b) → mW none (F + 1) mX3_canBeMade 95 [(0, .ref 1), (1, .int s), (2, .int a), (3, .int b)] [] h (fun r h' => r = some (.int (bz (p_can (sM S) s a b))) ∧ h = h') := fun e => by
    refine w_aload_n (q := 96) aX3_canBeMade_95 rfl rfl ?_
    refine w_iload_n (q := 97) aX3_canBeMade_96 rfl rfl ?_
    refine w_callV aX3_canBeMade_97 t_3_64 (this_at rfl hR.ho) (rfl) (c_isHearer hR) (fun r97 h97 hp => ?_)
    obtain ⟨rfl, rfl⟩ := hp
    refine w_if_eq (t := 115) (q := 103) aX3_canBeMade_100 (by decide) rfl (fun c100 => ?_) (fun c100 => ?_)
    · refine w_iconst (v := 0) (q := 116) aX3_canBeMade_115 rfl rfl ?_
      refine w_zret aX3_canBeMade_116 rfl (Or.inl rfl) ?_
      exact ⟨by rw [bz_0 (fun z => bz_eq0 c100 (e.mpr z).1)], rfl⟩
    · refine w_iload_n (q := 104) aX3_canBeMade_103 rfl rfl ?_
      refine w_i2l (q := 105) aX3_canBeMade_104 rfl ?_
      refine w_callS aX3_canBeMade_105 x_3_45 t_3_45 (rfl) (c_isTally) (fun r105 h105 hp => ?_)
      obtain ⟨rfl, rfl⟩ := hp
      refine w_if_eq (t := 115) (q := 111) aX3_canBeMade_108 (by decide) rfl (fun c108 => ?_) (fun c108 => ?_)
      · refine w_iconst (v := 0) (q := 116) aX3_canBeMade_115 rfl rfl ?_
        refine w_zret aX3_canBeMade_116 rfl (Or.inl rfl) ?_
        exact ⟨by rw [bz_0 (fun z => bz_eq0 c108 ((rL_of b).mpr (e.mpr z).2))], rfl⟩
      · refine w_iconst (v := 1) (q := 112) aX3_canBeMade_111 rfl rfl ?_
        refine w_goto (t := 116) aX3_canBeMade_112 (by decide) ?_
        refine w_zret aX3_canBeMade_116 rfl (Or.inr rfl) ?_
        exact ⟨by rw [bz_1 (e.mp ⟨bz_ne0 c100, (rL_of b).mp (bz_ne0 c108)⟩)], rfl⟩
  have tHH : (rN (sM S) a ∧ rN (sM S) b ↔ p_can (sM S) s a b) → mW none (F + 1) mX3_canBeMade 117 [(0, .ref 1), (1, .int s), (2, .int a), (3, .int b)] [] h (fun r h' => r = some (.int (bz (p_can (sM S) s a b))) ∧ h = h') := fun e => by
    refine w_aload_n (q := 118) aX3_canBeMade_117 rfl rfl ?_
    refine w_iload_n (q := 119) aX3_canBeMade_118 rfl rfl ?_
    refine w_callV aX3_canBeMade_119 t_3_64 (this_at rfl hR.ho) (rfl) (c_isHearer hR) (fun r119 h119 hp => ?_)
    obtain ⟨rfl, rfl⟩ := hp
    refine w_if_eq (t := 137) (q := 125) aX3_canBeMade_122 (by decide) rfl (fun c122 => ?_) (fun c122 => ?_)
    · refine w_iconst (v := 0) (q := 138) aX3_canBeMade_137 rfl rfl ?_
      refine w_zret aX3_canBeMade_138 rfl (Or.inl rfl) ?_
      exact ⟨by rw [bz_0 (fun z => bz_eq0 c122 (e.mpr z).1)], rfl⟩
    · refine w_aload_n (q := 126) aX3_canBeMade_125 rfl rfl ?_
      refine w_iload_n (q := 127) aX3_canBeMade_126 rfl rfl ?_
      refine w_callV aX3_canBeMade_127 t_3_64 (this_at rfl hR.ho) (rfl) (c_isHearer hR) (fun r127 h127 hp => ?_)
      obtain ⟨rfl, rfl⟩ := hp
      refine w_if_eq (t := 137) (q := 133) aX3_canBeMade_130 (by decide) rfl (fun c130 => ?_) (fun c130 => ?_)
      · refine w_iconst (v := 0) (q := 138) aX3_canBeMade_137 rfl rfl ?_
        refine w_zret aX3_canBeMade_138 rfl (Or.inl rfl) ?_
        exact ⟨by rw [bz_0 (fun z => bz_eq0 c130 (e.mpr z).2)], rfl⟩
      · refine w_iconst (v := 1) (q := 134) aX3_canBeMade_133 rfl rfl ?_
        refine w_goto (t := 138) aX3_canBeMade_134 (by decide) ?_
        refine w_zret aX3_canBeMade_138 rfl (Or.inr rfl) ?_
        exact ⟨by rw [bz_1 (e.mp ⟨bz_ne0 c122, bz_ne0 c130⟩)], rfl⟩
  have tHB : (rN (sM S) a ∧ rN 6 b ↔ p_can (sM S) s a b) → mW none (F + 1) mX3_canBeMade 139 [(0, .ref 1), (1, .int s), (2, .int a), (3, .int b)] [] h (fun r h' => r = some (.int (bz (p_can (sM S) s a b))) ∧ h = h') := fun e => by
    refine w_aload_n (q := 140) aX3_canBeMade_139 rfl rfl ?_
    refine w_iload_n (q := 141) aX3_canBeMade_140 rfl rfl ?_
    refine w_callV aX3_canBeMade_141 t_3_64 (this_at rfl hR.ho) (rfl) (c_isHearer hR) (fun r141 h141 hp => ?_)
    obtain ⟨rfl, rfl⟩ := hp
    refine w_if_eq (t := 158) (q := 147) aX3_canBeMade_144 (by decide) rfl (fun c144 => ?_) (fun c144 => ?_)
    · refine w_iconst (v := 0) (q := 159) aX3_canBeMade_158 rfl rfl ?_
      refine w_zret aX3_canBeMade_159 rfl (Or.inl rfl) ?_
      exact ⟨by rw [bz_0 (fun z => bz_eq0 c144 (e.mpr z).1)], rfl⟩
    · refine w_iload_n (q := 148) aX3_canBeMade_147 rfl rfl ?_
      refine w_callS aX3_canBeMade_148 x_3_49 t_3_49 (rfl) (c_isBell) (fun r148 h148 hp => ?_)
      obtain ⟨rfl, rfl⟩ := hp
      refine w_if_eq (t := 158) (q := 154) aX3_canBeMade_151 (by decide) rfl (fun c151 => ?_) (fun c151 => ?_)
      · refine w_iconst (v := 0) (q := 159) aX3_canBeMade_158 rfl rfl ?_
        refine w_zret aX3_canBeMade_159 rfl (Or.inl rfl) ?_
        exact ⟨by rw [bz_0 (fun z => bz_eq0 c151 (e.mpr z).2)], rfl⟩
      · refine w_iconst (v := 1) (q := 155) aX3_canBeMade_154 rfl rfl ?_
        refine w_goto (t := 159) aX3_canBeMade_155 (by decide) ?_
        refine w_zret aX3_canBeMade_159 rfl (Or.inr rfl) ?_
        exact ⟨by rw [bz_1 (e.mp ⟨bz_ne0 c144, bz_ne0 c151⟩)], rfl⟩
  refine w_iload_n (q := 1) aX3_canBeMade_0 rfl rfl ?_
  by_cases hx : rN 15 s
  · obtain ⟨j, hj, rfl⟩ := rN_of (by omega) hx
    have hcs : j = 0 ∨ j = 1 ∨ j = 2 ∨ j = 3 ∨ j = 4 ∨ j = 5 ∨ j = 6 ∨ j = 7 ∨ j = 8 ∨ j = 9 ∨ j = 10 ∨ j = 11 ∨ j = 12 ∨ j = 13 ∨ j = 14 := by omega
    rcases hcs with rfl | rfl | rfl | rfl | rfl | rfl | rfl | rfl | rfl | rfl | rfl | rfl | rfl | rfl | rfl
    · refine w_table (t := 76) (o := 75) aX3_canBeMade_1 (by skip; decide) (by skip; decide) (by skip; rfl) (by decide) ?_
      exact tT (can_0)
    · refine w_table (t := 76) (o := 75) aX3_canBeMade_1 (by skip; decide) (by skip; decide) (by skip; rfl) (by decide) ?_
      exact tT (can_1)
    · refine w_table (t := 76) (o := 75) aX3_canBeMade_1 (by skip; decide) (by skip; decide) (by skip; rfl) (by decide) ?_
      exact tT (can_2')
    · refine w_table (t := 76) (o := 75) aX3_canBeMade_1 (by skip; decide) (by skip; decide) (by skip; rfl) (by decide) ?_
      exact tT (can_3)
    · refine w_table (t := 82) (o := 81) aX3_canBeMade_1 (by skip; decide) (by skip; decide) (by skip; rfl) (by decide) ?_
      exact t1 (can_4)
    · refine w_table (t := 84) (o := 83) aX3_canBeMade_1 (by skip; decide) (by skip; decide) (by skip; rfl) (by decide) ?_
      exact tB (can_5)
    · refine w_table (t := 84) (o := 83) aX3_canBeMade_1 (by skip; decide) (by skip; decide) (by skip; rfl) (by decide) ?_
      exact tB (can_6)
    · refine w_table (t := 82) (o := 81) aX3_canBeMade_1 (by skip; decide) (by skip; decide) (by skip; rfl) (by decide) ?_
      exact t1 (can_7)
    · refine w_table (t := 89) (o := 88) aX3_canBeMade_1 (by skip; decide) (by skip; decide) (by skip; rfl) (by decide) ?_
      exact tH (can_8')
    · refine w_table (t := 89) (o := 88) aX3_canBeMade_1 (by skip; decide) (by skip; decide) (by skip; rfl) (by decide) ?_
      exact tH (can_9)
    · refine w_table (t := 95) (o := 94) aX3_canBeMade_1 (by skip; decide) (by skip; decide) (by skip; rfl) (by decide) ?_
      exact tHT (can_10)
    · refine w_table (t := 117) (o := 116) aX3_canBeMade_1 (by skip; decide) (by skip; decide) (by skip; rfl) (by decide) ?_
      exact tHH (can_11)
    · refine w_table (t := 95) (o := 94) aX3_canBeMade_1 (by skip; decide) (by skip; decide) (by skip; rfl) (by decide) ?_
      exact tHT (can_12)
    · refine w_table (t := 89) (o := 88) aX3_canBeMade_1 (by skip; decide) (by skip; decide) (by skip; rfl) (by decide) ?_
      exact tH (can_13)
    · refine w_table (t := 139) (o := 138) aX3_canBeMade_1 (by skip; decide) (by skip; decide) (by skip; rfl) (by decide) ?_
      exact tHB (can_14)
  · refine w_tableD (t := 160) aX3_canBeMade_1 (rN_out hx) (by decide) ?_
    refine w_iconst (v := 0) (q := 161) aX3_canBeMade_160 rfl rfl ?_
    refine w_zret aX3_canBeMade_161 rfl (Or.inl rfl) ?_
    exact ⟨by rw [bz_0 (fun z => hx (can_in z))], rfl⟩
end
section
theorem new_s (h : mm_H) (c : mm_C) : (mm_new h c).2.2 h.1 = some c := if_pos rfl
theorem new_n {h : mm_H} {b : Nat} {c : mm_C} (hn : ¬ b = h.1) : (mm_new h c).2.2 b = h.2.2 b := if_neg hn
theorem rf_nar {C : String} {o : Option Nat} : narrow (.object C) (va_rf o) = va_rf o := by cases o <;> rfl
theorem rf_fit {C : String} {o : Option Nat} : fits (.object C) (va_rf o) = true := by cases o <;> rfl
theorem rf_cat (o : Option Nat) : (va_rf o).category = 1 := by cases o <;> rfl
theorem c_actInit {F : Nat} {h : mm_H} {o : Nat} {s a b : Int32} {kp : Int64} {f1 f2 : Option Nat} (hc : h.2.2 o = some (0, [.int 0, .int 0, .int 0, .long 0, .null, .null, .int 0])) : mW none (F + 1) mX0_init 0 [(0, .ref o), (1, .int s), (2, .int a), (3, .int b), (4, .long kp), (6, va_rf f1), (7, va_rf f2)] [] h (fun r h' => r = none ∧ h'.2.2 o = some (0, [.int s, .int a, .int b, .long kp, va_rf f1, va_rf f2, .int 0]) ∧ fr (fun q => q = o) h h') := by
  refine w_aload_n (q := 1) aX0_init_0 rfl rfl ?_
  refine w_obj (q := 4) aX0_init_1 o_0_1 (by decide) rfl ?_
  refine w_aload_n (q := 5) aX0_init_4 rfl rfl ?_
  refine w_iload_n (q := 6) aX0_init_5 rfl rfl ?_
  refine w_put (q := 9) (fs' := [_, _, _, _, _, _, _]) aX0_init_6 f_0_7 (hc) (Nat.le_of_ble_eq_true rfl) rfl rfl (Or.inr ⟨rfl, rfl⟩) rfl rfl ?_
  refine w_aload_n (q := 10) aX0_init_9 rfl rfl ?_
  refine w_iload_n (q := 11) aX0_init_10 rfl rfl ?_
  refine w_put (q := 14) (fs' := [_, _, _, _, _, _, _]) aX0_init_11 f_0_13 (up_s _ _ _) (Nat.le_of_ble_eq_true rfl) rfl rfl (Or.inr ⟨rfl, rfl⟩) rfl rfl ?_
  refine w_aload_n (q := 15) aX0_init_14 rfl rfl ?_
  refine w_iload_n (q := 16) aX0_init_15 rfl rfl ?_
  refine w_put (q := 19) (fs' := [_, _, _, _, _, _, _]) aX0_init_16 f_0_16 (up_s _ _ _) (Nat.le_of_ble_eq_true rfl) rfl rfl (Or.inr ⟨rfl, rfl⟩) rfl rfl ?_
  refine w_aload_n (q := 20) aX0_init_19 rfl rfl ?_
  refine w_lload (q := 22) aX0_init_20 rfl rfl ?_
  refine w_put (q := 25) (fs' := [_, _, _, _, _, _, _]) aX0_init_22 f_0_19 (up_s _ _ _) (Nat.le_of_ble_eq_true rfl) rfl rfl (Or.inr ⟨rfl, rfl⟩) rfl rfl ?_
  refine w_aload_n (q := 26) aX0_init_25 rfl rfl ?_
  refine w_aloadQ (q := 28) aX0_init_26 rfl rfl ?_
  refine w_put (q := 31) (fs' := [_, _, _, _, _, _, _]) aX0_init_28 f_0_23 (up_s _ _ _) (Nat.le_of_ble_eq_true rfl) rf_nar rf_fit (Or.inr ⟨rfl, rfl⟩) rfl rfl ?_
  refine w_aload_n (q := 32) aX0_init_31 rfl rfl ?_
  refine w_aloadQ (q := 34) aX0_init_32 rfl rfl ?_
  refine w_put (q := 37) (fs' := [_, _, _, _, _, _, _]) aX0_init_34 f_0_27 (up_s _ _ _) (Nat.le_of_ble_eq_true rfl) rf_nar rf_fit (Or.inr ⟨rfl, rfl⟩) rfl rfl ?_
  refine w_vret aX0_init_37 rfl ?_
  exact ⟨rfl, up_s _ _ _, (((((fr.up (A := fun q => q = o) fr.rf rfl).up rfl).up rfl).up rfl).up rfl).up rfl⟩
def p_act (S : St) (s a b : Int32) : Act9 := (s, a, b, if s = 2 then sT S a.toNatClampNeg else 0, if 8 ≤ s ∧ s ≤ 12 then sH S a.toNatClampNeg else none, if s = 11 then sH S b.toNatClampNeg else none)
/-- a hearer more -/
def p_make (S : St) (s a b : Int32) : St := (sC S, sT S, sW S, sL S, sQ S, sM S + 1, fu (sA S) (sM S) (p_act S s a b), fu (sB S) (sM S) 0, fu (sH S) (sM S) (some (sM S)), sS S, sD S)
theorem RC.upNew {S : St} {h h' : mm_H} {s a b : Int32} (r : RC S h) (h1 : h'.2.2 1 = some (3, hoL (p_make S s a b))) (h7 : h'.2.2 7 = some (7, rg 40 (fu (fun j => va_rf (if j < sM S then some (aa j) else none)) (sM S) (.ref (aa (sM S)))))) (h8 : h'.2.2 8 = some (7, rg 40 (fu (fun j => va_rf ((sH S j).map aa)) (sM S) (.ref (aa (sM S)))))) (ho : h'.2.2 (aa (sM S)) = some (0, acL (p_act S s a b) 0)) (hf : ∀ q, ¬ (q = 1 ∨ q = 7 ∨ q = 8 ∨ q = aa (sM S)) → h'.2.2 q = h.2.2 q) : RC (p_make S s a b) h' := by
  have hak := aa_or (sM S)
  refine ⟨h1, (hf _ (by omega)).trans r.ta, (hf _ (by omega)).trans r.be, r.qu.kept (fun a ha => hf _ (by omega)), ?_, ?_, (hf _ (by omega)).trans r.ro, ?_, ?_, ?_⟩
  · rw [h7]
    refine congrArg (fun z => some (7, rg 40 z)) (funext fun j => ?_)
    show fu _ _ _ j = va_rf (if j < sM S + 1 then some (aa j) else none)
    by_cases e : j = sM S
    · subst e
      rw [fu_s, if_pos (by omega)]
      rfl
    · rw [fu_n e]
      by_cases e2 : j < sM S
      · rw [if_pos e2, if_pos (by omega)]
      · rw [if_neg e2, if_neg (by omega)]
  · rw [h8]
    exact congrArg (fun z => some (7, rg 40 z)) (fu_va (o := some (sM S)))
  · intro d hd
    obtain ⟨rr, g1, g2⟩ := r.rw hd
    exact ⟨rr, g1, (hf _ (by omega)).trans g2⟩
  · intro k hk
    obtain ⟨g, hg⟩ := r.bel hk
    exact ⟨g, hg.kept (hf _ (by omega)) (hf _ (by omega))⟩
  · intro k hk
    show h'.2.2 (aa k) = some (0, acL (fu (sA S) (sM S) (p_act S s a b) k) (fu (sB S) (sM S) 0 k))
    have hk2 : k < sM S + 1 := hk
    by_cases e : k = sM S
    · subst e
      rw [fu_s, fu_s]
      exact ho
    · rw [fu_n e, fu_n e]
      have hkk := aa_or k
      have hne : ¬ aa k = aa (sM S) := fun z => e (aa_inj z)
      exact (hf _ (by omega)).trans (r.ac (by omega))
theorem call7 {f1 f2 : Option Nat} {kp : Int64} {b a s : Int32} {o : Nat} : mm_call mX0_init (6 + 1) [va_rf f2, va_rf f1, .long kp, .int b, .int a, .int s, .ref o, .ref o] = some (.inr (.inl (mX0_init, [.ref o, .int s, .int a, .int b, .long kp, va_rf f1, va_rf f2], [.ref o]))) := by cases f1 <;> cases f2 <;> rfl
theorem lvA7 {f1 f2 : Option Nat} {kp : Int64} {b a s : Int32} {o : Nat} : lv_args 0 [.ref o, .int s, .int a, .int b, .long kp, va_rf f1, va_rf f2] = [(0, .ref o), (1, .int s), (2, .int a), (3, .int b), (4, .long kp), (6, va_rf f1), (7, va_rf f2)] := by cases f1 <;> cases f2 <;> rfl
/-- what makeHearer ends with -/
def mkP (S : St) (s a b : Int32) (h : mm_H) : Option Value → mm_H → Prop := fun r h' => r = some (.int (nI (sM S))) ∧ RC (p_make S s a b) h' ∧ h'.1 = h.1 + 1 ∧ h'.2.1 = h.2.1 + 7 ∧ ∀ q, ¬ AC q → h'.2.2 q = h.2.2 q
theorem c_makeHearer {F : Nat} {h : mm_H} {S : St} {s a b : Int32} (hM : sM S < 40) (ho : h.1 = aa (sM S)) (h2 : s = 2 → rN 8 a) (h8 : 8 ≤ s → s ≤ 12 → rN (sM S) a) (h11 : s = 11 → rN (sM S) b) (hR : RC S h) : mW none (F + 2) mX3_makeHearer 0 [(0, .ref 1), (1, .int s), (2, .int a), (3, .int b)] [] h (mkP S s a b h) := by
  have hak := aa_or (sM S)
  have k59 : mW none (F + 2) mX3_makeHearer 59 [(7, va_rf ((p_act S s a b).2.2.2.2.2.map aa)), (6, va_rf ((p_act S s a b).2.2.2.2.1.map aa)), (4, .long (p_act S s a b).2.2.2.1), (0, .ref 1), (1, .int s), (2, .int a), (3, .int b)] [] h (mkP S s a b h) := by
    refine w_new (q := 62) aX3_makeHearer_59 k_3_26 (by decide) rfl ?_
    refine w_dup (q := 63) aX3_makeHearer_62 rfl rfl ?_
    refine w_iload_n (q := 64) aX3_makeHearer_63 rfl rfl ?_
    refine w_iload_n (q := 65) aX3_makeHearer_64 rfl rfl ?_
    refine w_iload_n (q := 66) aX3_makeHearer_65 rfl rfl ?_
    refine w_lload (q := 68) aX3_makeHearer_66 rfl rfl ?_
    refine w_aloadQ (q := 70) aX3_makeHearer_68 rfl rfl ?_
    refine w_aloadQ (q := 72) aX3_makeHearer_70 rfl rfl ?_
    refine w_callI aX3_makeHearer_72 o_3_132 t_3_132 (by decide) (this_at (a := h.1) rfl (new_s _ _)) (call7) ((by rw [lvA7]; exact c_actInit (new_s _ _))) (fun r72 h72 hp => ?_)
    obtain ⟨rfl, hn, hf⟩ := hp
    have K : ∀ q, ¬ q = h.1 → h72.2.2 q = h.2.2 q := fun q hq => (hf.2.2 q hq).trans (new_n hq)
    refine w_astore (q := 77) (ls' := [(8, .ref h.1), (7, va_rf ((p_act S s a b).2.2.2.2.2.map aa)), (6, va_rf ((p_act S s a b).2.2.2.2.1.map aa)), (4, .long (p_act S s a b).2.2.2.1), (0, .ref 1), (1, .int s), (2, .int a), (3, .int b)]) aX3_makeHearer_75 (by decide) (by simp [mm_st1, rf_cat]) rfl ?_
    refine w_aload_n (q := 78) aX3_makeHearer_77 rfl rfl ?_
    refine w_get (q := 81) aX3_makeHearer_78 f_3_28 ((K 1 (by omega)).trans hR.ho) rfl rfl ?_
    refine w_aload_n (q := 82) aX3_makeHearer_81 rfl rfl ?_
    refine w_get (q := 85) aX3_makeHearer_82 f_3_61 ((K 1 (by omega)).trans hR.ho) rfl rfl ?_
    refine w_aload (q := 87) aX3_makeHearer_85 rfl rfl ?_
    refine w_aast (q := 88) (ci := 0) (n := sM S) aX3_makeHearer_87 ((K 7 (by omega)).trans hR.ow) (by decide) (by unfold mm_okv; dsimp only; rw [hn]; rfl) (rfl) (by rw [rg_len]; omega) (by rw [rg_len]; omega) (rg_set _ _ _ _) rfl ?_
    refine w_aload_n (q := 89) aX3_makeHearer_88 rfl rfl ?_
    refine w_get (q := 92) aX3_makeHearer_89 f_3_32 ((up_n (by decide)).trans ((K 1 (by omega)).trans hR.ho)) rfl rfl ?_
    refine w_aload_n (q := 93) aX3_makeHearer_92 rfl rfl ?_
    refine w_get (q := 96) aX3_makeHearer_93 f_3_61 ((up_n (by decide)).trans ((K 1 (by omega)).trans hR.ho)) rfl rfl ?_
    refine w_aload (q := 98) aX3_makeHearer_96 rfl rfl ?_
    refine w_aast (q := 99) (ci := 0) (n := sM S) aX3_makeHearer_98 ((up_n (by decide)).trans ((K 8 (by omega)).trans hR.ha)) (by decide) (by unfold mm_okv; dsimp only; rw [up_n (by omega), hn]; rfl) (rfl) (by rw [rg_len]; omega) (by rw [rg_len]; omega) (rg_set _ _ _ _) rfl ?_
    refine w_aload_n (q := 100) aX3_makeHearer_99 rfl rfl ?_
    refine w_dup (q := 101) aX3_makeHearer_100 rfl rfl ?_
    refine w_get (q := 104) aX3_makeHearer_101 f_3_61 ((up_n (by decide)).trans ((up_n (by decide)).trans ((K 1 (by omega)).trans hR.ho))) rfl rfl ?_
    refine w_dup_x1 (q := 105) aX3_makeHearer_104 ⟨rfl, rfl⟩ rfl ?_
    refine w_iconst (v := 1) (q := 106) aX3_makeHearer_105 rfl rfl ?_
    refine w_iadd (q := 107) aX3_makeHearer_106 rfl ?_
    refine w_put (q := 110) (fs' := [_, _, _, _, _, _, _, _, _, _, _, _, _, _, _, _, _]) aX3_makeHearer_107 f_3_61 ((up_n (by decide)).trans ((up_n (by decide)).trans ((K 1 (by omega)).trans hR.ho))) (Nat.le_of_ble_eq_true rfl) rfl rfl (Or.inl rfl) rfl rfl ?_
    refine w_iret aX3_makeHearer_110 rfl ?_
    refine ⟨rfl, hR.upNew ?_ ?_ ?_ ?_ ?_, hf.1, hf.2.1, ?_⟩
    · rw [up_s]
      show some (3, [Value.ref 2, .ref 3, .ref 4, .ref 7, .ref 8, .int (nI (sM S) + 1), .ref 9, .int (nI (sD S)), .int (nI (sS S)), .int (sC S 1), .int (sC S 2), .int (sC S 3), .int (sC S 4), .int (sC S 5), .int (sC S 6), .int (sC S 8), .int (sC S 9)]) = _
      rw [nI_1]
      rfl
    · rw [up_n (by decide), up_n (by decide), up_s, ho]
    · rw [up_n (by decide), up_s, ho]
    · rw [up_n (by omega), up_n (by omega), up_n (by omega), ← ho, hn]
      rfl
    · intro q hq
      rw [up_n (by omega), up_n (by omega), up_n (by omega)]
      exact K q (by omega)
    · intro q hq
      unfold AC at hq
      rw [up_n (by omega), up_n (by omega), up_n (by omega)]
      exact K q (by omega)
  have k41 : mW none (F + 2) mX3_makeHearer 41 [(6, va_rf ((p_act S s a b).2.2.2.2.1.map aa)), (4, .long (p_act S s a b).2.2.2.1), (0, .ref 1), (1, .int s), (2, .int a), (3, .int b)] [] h (mkP S s a b h) := by
    have e : (p_act S s a b).2.2.2.2.2 = if s = 11 then sH S b.toNatClampNeg else none := rfl
    rw [e] at k59
    refine w_iload_n (q := 42) aX3_makeHearer_41 rfl rfl ?_
    refine w_bipush (v := 11) (q := 44) aX3_makeHearer_42 rfl rfl ?_
    refine w_ic_ne (t := 56) (q := 47) aX3_makeHearer_44 (by decide) rfl (fun c44 => ?_) (fun c44 => ?_)
    · rw [if_neg c44] at k59
      refine w_null (q := 57) aX3_makeHearer_56 rfl ?_
      show mW none (F + 2) mX3_makeHearer 57 _ [va_rf ((none : Option Nat).map aa)] h _
      refine w_astoreQ (q := 59) (ls' := [(7, va_rf ((none : Option Nat).map aa)), (6, va_rf ((p_act S s a b).2.2.2.2.1.map aa)), (4, .long (p_act S s a b).2.2.2.1), (0, .ref 1), (1, .int s), (2, .int a), (3, .int b)]) aX3_makeHearer_57 (by decide) (by simp [mm_st1, rf_cat]) rfl ?_
      exact k59
    · rw [if_pos c44] at k59
      obtain ⟨j, hj, rfl⟩ := rN_of (by omega) (h11 c44)
      rw [nI_clamp (by omega)] at k59
      refine w_aload_n (q := 48) aX3_makeHearer_47 rfl rfl ?_
      refine w_get (q := 51) aX3_makeHearer_48 f_3_32 (hR.ho) rfl rfl ?_
      refine w_iload_n (q := 52) aX3_makeHearer_51 rfl rfl ?_
      refine w_aald (q := 53) aX3_makeHearer_52 (hR.ha) (by decide) (mm_ix_at (n := j) rfl (by omega) (rg_at (by omega))) rfl ?_
      refine w_goto (t := 57) aX3_makeHearer_53 (by decide) ?_
      refine w_astoreQ (q := 59) (ls' := [(7, va_rf ((sH S j).map aa)), (6, va_rf ((p_act S s a (nI j)).2.2.2.2.1.map aa)), (4, .long (p_act S s a (nI j)).2.2.2.1), (0, .ref 1), (1, .int s), (2, .int a), (3, .int (nI j))]) aX3_makeHearer_57 (by decide) (by simp [mm_st1, rf_cat]) rfl ?_
      exact k59
  have k17 : mW none (F + 2) mX3_makeHearer 17 [(4, .long (p_act S s a b).2.2.2.1), (0, .ref 1), (1, .int s), (2, .int a), (3, .int b)] [] h (mkP S s a b h) := by
    have e : (p_act S s a b).2.2.2.2.1 = if 8 ≤ s ∧ s ≤ 12 then sH S a.toNatClampNeg else none := rfl
    rw [e] at k41
    have none9 : ¬ (8 ≤ s ∧ s ≤ 12) → mW none (F + 2) mX3_makeHearer 38 [(4, .long (p_act S s a b).2.2.2.1), (0, .ref 1), (1, .int s), (2, .int a), (3, .int b)] [] h (mkP S s a b h) := fun hn => by
      rw [if_neg hn] at k41
      refine w_null (q := 39) aX3_makeHearer_38 rfl ?_
      show mW none (F + 2) mX3_makeHearer 39 _ [va_rf ((none : Option Nat).map aa)] h _
      refine w_astoreQ (q := 41) (ls' := [(6, _), (4, _), (0, _), (1, _), (2, _), (3, _)]) aX3_makeHearer_39 (by decide) rfl rfl ?_
      exact k41
    refine w_iload_n (q := 18) aX3_makeHearer_17 rfl rfl ?_
    refine w_bipush (v := 8) (q := 20) aX3_makeHearer_18 rfl rfl ?_
    refine w_ic_lt (t := 38) (q := 23) aX3_makeHearer_20 (by decide) rfl (fun c20 => ?_) (fun c20 => ?_)
    · exact none9 (fun z => k2_nlt z.1 c20)
    · refine w_iload_n (q := 24) aX3_makeHearer_23 rfl rfl ?_
      refine w_bipush (v := 12) (q := 26) aX3_makeHearer_24 rfl rfl ?_
      refine w_ic_gt (t := 38) (q := 29) aX3_makeHearer_26 (by decide) rfl (fun c26 => ?_) (fun c26 => ?_)
      · exact none9 (fun z => k2_nlt z.2 c26)
      · have hc : 8 ≤ s ∧ s ≤ 12 := ⟨k2_le c20, k2_le c26⟩
        rw [if_pos hc] at k41
        obtain ⟨j, hj, rfl⟩ := rN_of (by omega) (h8 hc.1 hc.2)
        rw [nI_clamp (by omega)] at k41
        refine w_aload_n (q := 30) aX3_makeHearer_29 rfl rfl ?_
        refine w_get (q := 33) aX3_makeHearer_30 f_3_32 (hR.ho) rfl rfl ?_
        refine w_iload_n (q := 34) aX3_makeHearer_33 rfl rfl ?_
        refine w_aald (q := 35) aX3_makeHearer_34 (hR.ha) (by decide) (mm_ix_at (n := j) rfl (by omega) (rg_at (by omega))) rfl ?_
        refine w_goto (t := 39) aX3_makeHearer_35 (by decide) ?_
        refine w_astoreQ (q := 41) (ls' := [(6, _), (4, _), (0, _), (1, _), (2, _), (3, _)]) aX3_makeHearer_39 (by decide) rfl rfl ?_
        exact k41
  have e : (p_act S s a b).2.2.2.1 = if s = 2 then sT S a.toNatClampNeg else 0 := rfl
  rw [e] at k17
  refine w_iload_n (q := 1) aX3_makeHearer_0 rfl rfl ?_
  refine w_iconst (v := 2) (q := 2) aX3_makeHearer_1 rfl rfl ?_
  refine w_ic_ne (t := 14) (q := 5) aX3_makeHearer_2 (by decide) rfl (fun c2 => ?_) (fun c2 => ?_)
  · rw [if_neg c2] at k17
    refine w_lconst (v := 0) (q := 15) aX3_makeHearer_14 rfl rfl ?_
    refine w_lstore (q := 17) (ls' := [(4, _), (0, _), (1, _), (2, _), (3, _)]) aX3_makeHearer_15 (by decide) rfl rfl ?_
    exact k17
  · rw [if_pos c2] at k17
    obtain ⟨j, hj, rfl⟩ := rN_of (by omega) (h2 c2)
    rw [nI_clamp (by omega)] at k17
    refine w_aload_n (q := 6) aX3_makeHearer_5 rfl rfl ?_
    refine w_get (q := 9) aX3_makeHearer_6 f_3_9 (hR.ho) rfl rfl ?_
    refine w_iload_n (q := 10) aX3_makeHearer_9 rfl rfl ?_
    refine w_lald (q := 11) aX3_makeHearer_10 (hR.ta) (mm_ix_at (n := j) rfl (by omega) (rg_at hj)) rfl ?_
    refine w_goto (t := 15) aX3_makeHearer_11 (by decide) ?_
    refine w_lstore (q := 17) (ls' := [(4, _), (0, _), (1, _), (2, _), (3, _)]) aX3_makeHearer_15 (by decide) rfl rfl ?_
    exact k17
end
section
def p_hearer (S : St) (s a b : Int32) : Int32 × St := if p_can (sM S) s a b then (if 40 ≤ sM S then (-3, S) else (nI (sM S), p_make S s a b)) else (-2, S)
theorem can_2 {m : Nat} {a b : Int32} (h : p_can m 2 a b) : rN 8 a := by
  have := (can_2' (m := m) (a := a) (b := b)).mpr h
  exact this
theorem can_8 {m : Nat} {s a b : Int32} (h : p_can m s a b) (h1 : 8 ≤ s) (h2 : s ≤ 12) : rN m a := by
  obtain ⟨j, hj, rfl⟩ := rN_of (by omega) (can_in h)
  have h3 : 8 ≤ j := (nI_leI (a := 8) (by omega) (by omega)).mp h1
  have h4 : j ≤ 12 := (nI_leI (b := 12) (by omega) (by omega)).mp h2
  have hcs : j = 8 ∨ j = 9 ∨ j = 10 ∨ j = 11 ∨ j = 12 := by omega
  rcases hcs with rfl | rfl | rfl | rfl | rfl
  · exact can_8'.mpr h
  · exact can_9.mpr h
  · exact (can_10.mpr h).1
  · exact (can_11.mpr h).1
  · exact (can_12.mpr h).1
theorem c_hearer {F : Nat} {h : mm_H} {S : St} {s a b : Int32} (hM : sM S ≤ 40) (ho : h.1 = aa (sM S)) (hR : RC S h) : mW none (F + 3) mX3_hearer 0 [(0, .ref 1), (1, .int s), (2, .int a), (3, .int b)] [] h (fun r h' => r = some (.int (p_hearer S s a b).1) ∧ RC (p_hearer S s a b).2 h' ∧ h'.1 = h.1 + (sM (p_hearer S s a b).2 - sM S) ∧ h'.2.1 = h.2.1 + 7 * (sM (p_hearer S s a b).2 - sM S) ∧ ∀ q, ¬ AC q → h'.2.2 q = h.2.2 q) := by
  unfold p_hearer
  refine w_aload_n (q := 1) aX3_hearer_0 rfl rfl ?_
  refine w_iload_n (q := 2) aX3_hearer_1 rfl rfl ?_
  refine w_iload_n (q := 3) aX3_hearer_2 rfl rfl ?_
  refine w_iload_n (q := 4) aX3_hearer_3 rfl rfl ?_
  refine w_callV aX3_hearer_4 t_3_57 (this_at rfl hR.ho) (rfl) (c_canBeMade hR) (fun r4 h4 hp => ?_)
  obtain ⟨rfl, rfl⟩ := hp
  refine w_if_ne (t := 13) (q := 10) aX3_hearer_7 (by decide) rfl (fun c7 => ?_) (fun c7 => ?_)
  · have hc := bz_ne0 c7
    rw [if_pos hc]
    refine w_aload_n (q := 14) aX3_hearer_13 rfl rfl ?_
    refine w_get (q := 17) aX3_hearer_14 f_3_61 (hR.ho) rfl rfl ?_
    refine w_bipush (v := 40) (q := 19) aX3_hearer_17 rfl rfl ?_
    refine w_ic_lt (t := 27) (q := 22) aX3_hearer_19 (by decide) rfl (fun c19 => ?_) (fun c19 => ?_)
    · have hlt : sM S < 40 := (nI_ltI (b := 40) (by omega) (by omega)).mp c19
      rw [if_neg (by omega)]
      refine w_aload_n (q := 28) aX3_hearer_27 rfl rfl ?_
      refine w_iload_n (q := 29) aX3_hearer_28 rfl rfl ?_
      refine w_iload_n (q := 30) aX3_hearer_29 rfl rfl ?_
      refine w_iload_n (q := 31) aX3_hearer_30 rfl rfl ?_
      refine w_callV aX3_hearer_31 t_3_41 (this_at rfl hR.ho) (rfl) (c_makeHearer hlt ho (fun e => by subst e; exact can_2 hc) (can_8 hc) (fun e => by subst e; exact (can_11.mpr hc).2) hR) (fun r31 h31 hp => ?_)
      obtain ⟨rfl, hR2, g1, g2, g3⟩ := hp
      refine w_iret aX3_hearer_34 rfl ?_
      have e1 : sM (nI (sM S), p_make S s a b).2 - sM S = 1 := by show sM S + 1 - sM S = 1; omega
      rw [e1]
      exact ⟨rfl, hR2, g1, g2, g3⟩
    · have hge : 40 ≤ sM S := Nat.le_of_not_lt (fun z => c19 (nI_lt (b := 40) z (by omega)))
      rw [if_pos hge]
      refine w_bipush (v := -3) (q := 24) aX3_hearer_22 rfl rfl ?_
      refine w_goto (t := 34) aX3_hearer_24 (by decide) ?_
      refine w_iret aX3_hearer_34 rfl ?_
      exact ⟨rfl, hR, by simp, by simp, fun _ _ => rfl⟩
  · rw [if_neg (bz_eq0 c7)]
    refine w_bipush (v := -2) (q := 12) aX3_hearer_10 rfl rfl ?_
    refine w_iret aX3_hearer_12 rfl ?_
    exact ⟨rfl, hR, by simp, by simp, fun _ _ => rfl⟩
/-- the answer of a call that rings or acts -/
def m_answer (q : Int32 × St) : Int32 × St := if q.1 = 0 then (nI (sS q.2), q.2) else (-10 - q.1, uC q.2 (fu (inc (inc (sC q.2) 4) 9) 8 q.1))
theorem c_answerOfCall {F : Nat} {h : mm_H} {S : St} {e : Int32} (hR : RC S h) : mW none F mX3_answerOfCall 0 [(0, .ref 1), (1, .int e)] [] h (cP (m_answer (e, S)) h) := by
  unfold m_answer
  refine w_iload_n (q := 1) aX3_answerOfCall_0 rfl rfl ?_
  refine w_if_ne (t := 9) (q := 4) aX3_answerOfCall_1 (by decide) rfl (fun c1 => ?_) (fun c1 => ?_)
  · rw [if_neg c1]
    refine w_aload_n (q := 10) aX3_answerOfCall_9 rfl rfl ?_
    refine w_dup (q := 11) aX3_answerOfCall_10 rfl rfl ?_
    refine w_get (q := 14) aX3_answerOfCall_11 f_3_112 (hR.ho) rfl rfl ?_
    refine w_iconst (v := 1) (q := 15) aX3_answerOfCall_14 rfl rfl ?_
    refine w_iadd (q := 16) aX3_answerOfCall_15 rfl ?_
    refine w_put (q := 19) (fs' := [_, _, _, _, _, _, _, _, _, _, _, _, _, _, _, _, _]) aX3_answerOfCall_16 f_3_112 (hR.ho) (Nat.le_of_ble_eq_true rfl) rfl rfl (Or.inl rfl) rfl rfl ?_
    refine w_aload_n (q := 20) aX3_answerOfCall_19 rfl rfl ?_
    refine w_dup (q := 21) aX3_answerOfCall_20 rfl rfl ?_
    refine w_get (q := 24) aX3_answerOfCall_21 f_3_74 (up_s _ _ _) rfl rfl ?_
    refine w_iconst (v := 1) (q := 25) aX3_answerOfCall_24 rfl rfl ?_
    refine w_iadd (q := 26) aX3_answerOfCall_25 rfl ?_
    refine w_put (q := 29) (fs' := [_, _, _, _, _, _, _, _, _, _, _, _, _, _, _, _, _]) aX3_answerOfCall_26 f_3_74 (up_s _ _ _) (Nat.le_of_ble_eq_true rfl) rfl rfl (Or.inl rfl) rfl rfl ?_
    refine w_aload_n (q := 30) aX3_answerOfCall_29 rfl rfl ?_
    refine w_iload_n (q := 31) aX3_answerOfCall_30 rfl rfl ?_
    refine w_put (q := 34) (fs' := [_, _, _, _, _, _, _, _, _, _, _, _, _, _, _, _, _]) aX3_answerOfCall_31 f_3_124 (up_s _ _ _) (Nat.le_of_ble_eq_true rfl) rfl rfl (Or.inl rfl) rfl rfl ?_
    refine w_bipush (v := -10) (q := 36) aX3_answerOfCall_34 rfl rfl ?_
    refine w_iload_n (q := 37) aX3_answerOfCall_36 rfl rfl ?_
    refine w_isub (q := 38) aX3_answerOfCall_37 rfl ?_
    refine w_iret aX3_answerOfCall_38 rfl ?_
    have r1 := hR.upHo (S' := uC S (inc (sC S) 4)) rfl ⟨rfl, rfl, rfl, rfl, rfl, rfl, rfl, rfl⟩
    have r2 := r1.upHo (S' := uC S (inc (inc (sC S) 4) 9)) rfl ⟨rfl, rfl, rfl, rfl, rfl, rfl, rfl, rfl⟩
    have r3 := r2.upHo (S' := uC S (fu (inc (inc (sC S) 4) 9) 8 e)) rfl ⟨rfl, rfl, rfl, rfl, rfl, rfl, rfl, rfl⟩
    exact ⟨rfl, r3, ((fr.rf.up (AR_lit (by omega))).up (AR_lit (by omega))).up (AR_lit (by omega))⟩
  · rw [if_pos c1]
    refine w_aload_n (q := 5) aX3_answerOfCall_4 rfl rfl ?_
    refine w_get (q := 8) aX3_answerOfCall_5 f_3_77 (hR.ho) rfl rfl ?_
    refine w_iret aX3_answerOfCall_8 rfl ?_
    exact ⟨rfl, hR, fr.rf⟩
theorem c_shareTally {F : Nat} {h : mm_H} {S : St} {j : Nat} {v : Int64} (hj : j < 8) (hR : RC S h) : mW none F mX3_shareTally 0 [(0, .ref 1), (1, .int (nI j)), (2, .long v)] [] h (cP (if v = 0 then (1, S) else (0, uT S (fu (sT S) j (sT S j / v)))) h) := by
  refine w_lload_n (q := 1) aX3_shareTally_0 rfl rfl ?_
  refine w_lconst (v := 0) (q := 2) aX3_shareTally_1 rfl rfl ?_
  refine w_lcmp (q := 3) aX3_shareTally_2 rfl ?_
  refine w_if_ne (t := 8) (q := 6) aX3_shareTally_3 (by decide) rfl (fun c3 => ?_) (fun c3 => ?_)
  · have hv : ¬ v = 0 := fun z => c3 ((lg_cmp_eq _ _).mpr z)
    rw [if_neg hv]
    refine w_aload_n (q := 9) aX3_shareTally_8 rfl rfl ?_
    refine w_get (q := 12) aX3_shareTally_9 f_3_9 (hR.ho) rfl rfl ?_
    refine w_iload_n (q := 13) aX3_shareTally_12 rfl rfl ?_
    refine w_dup2 (q := 14) aX3_shareTally_13 ⟨rfl, rfl⟩ rfl ?_
    refine w_lald (q := 15) aX3_shareTally_14 (hR.ta) (mm_ix_at (n := j) rfl (by omega) (rg_at hj)) rfl ?_
    refine w_lload_n (q := 16) aX3_shareTally_15 rfl rfl ?_
    refine w_ldiv (q := 17) aX3_shareTally_16 (hv) rfl ?_
    refine w_last (q := 18) (n := j) (vs' := _) aX3_shareTally_17 (hR.ta) (rfl) (by rw [rg_len]; exact hj) (by rw [rg_len]; omega) (rg_set _ _ _ _) rfl ?_
    refine w_iconst (v := 0) (q := 19) aX3_shareTally_18 rfl rfl ?_
    refine w_iret aX3_shareTally_19 rfl ?_
    exact ⟨rfl, hR.upTa (by rw [fu_map Value.long]), fr.rf.up (AR_lit (by omega))⟩
  · rw [if_pos ((lg_cmp_eq _ _).mp c3)]
    refine w_iconst (v := 1) (q := 7) aX3_shareTally_6 rfl rfl ?_
    refine w_iret aX3_shareTally_7 rfl ?_
    exact ⟨rfl, hR, fr.rf⟩
theorem rL_i {v : Int64} (h : rL v) : ∃ j : Nat, j < 8 ∧ v.toInt32 = nI j := by
  obtain ⟨k, hk, rfl⟩ := pk_lOf h.1
  have h8 : k < 8 := (pk_lLT (b := 8) hk (by omega)).mp h.2
  exact ⟨k, h8, lN_i k⟩
theorem c_addAtPlace {F : Nat} {h : mm_H} {S : St} {v : Int64} {b : Int32} (hR : RC S h) : mW none (F + 1) mX3_addAtPlace 0 [(0, .ref 1), (1, .long v), (3, .int b)] [] h (cP (if rL v then (0, uT S (fu (sT S) v.toInt32.toNatClampNeg (sT S v.toInt32.toNatClampNeg + b.toInt64))) else (2, S)) h) := by
  refine w_lload_n (q := 1) aX3_addAtPlace_0 rfl rfl ?_
  refine w_callS aX3_addAtPlace_1 x_3_45 t_3_45 (rfl) (c_isTally) (fun r1 h1 hp => ?_)
  obtain ⟨rfl, rfl⟩ := hp
  refine w_if_ne (t := 9) (q := 7) aX3_addAtPlace_4 (by decide) rfl (fun c4 => ?_) (fun c4 => ?_)
  · have hv := bz_ne0 c4
    rw [if_pos hv]
    obtain ⟨j, hj, ej⟩ := rL_i hv
    refine w_aload_n (q := 10) aX3_addAtPlace_9 rfl rfl ?_
    refine w_get (q := 13) aX3_addAtPlace_10 f_3_9 (hR.ho) rfl rfl ?_
    refine w_lload_n (q := 14) aX3_addAtPlace_13 rfl rfl ?_
    refine w_l2i (q := 15) aX3_addAtPlace_14 rfl ?_
    refine w_dup2 (q := 16) aX3_addAtPlace_15 ⟨rfl, rfl⟩ rfl ?_
    rw [ej]
    refine w_lald (q := 17) aX3_addAtPlace_16 (hR.ta) (mm_ix_at (n := j) rfl (by omega) (rg_at hj)) rfl ?_
    refine w_iload_n (q := 18) aX3_addAtPlace_17 rfl rfl ?_
    refine w_i2l (q := 19) aX3_addAtPlace_18 rfl ?_
    refine w_ladd (q := 20) aX3_addAtPlace_19 rfl ?_
    refine w_last (q := 21) (n := j) (vs' := _) aX3_addAtPlace_20 (hR.ta) (rfl) (by rw [rg_len]; exact hj) (by rw [rg_len]; omega) (rg_set _ _ _ _) rfl ?_
    refine w_iconst (v := 0) (q := 22) aX3_addAtPlace_21 rfl rfl ?_
    refine w_iret aX3_addAtPlace_22 rfl ?_
    rw [nI_clamp (by omega)]
    exact ⟨rfl, hR.upTa (by rw [fu_map Value.long]), fr.rf.up (AR_lit (by omega))⟩
  · rw [if_neg (bz_eq0 c4)]
    refine w_iconst (v := 2) (q := 8) aX3_addAtPlace_7 rfl rfl ?_
    refine w_iret aX3_addAtPlace_8 rfl ?_
    exact ⟨rfl, hR, fr.rf⟩
/-- a hearer leaves the lines of the bells 0 .. n - 1 -/
def cutL (l : Nat → List Int32) (x : Int32) (n : Nat) : Nat → List Int32 := fun j => if j < n then (l j).erase x else l j
theorem l_removeAll {F : Nat} {S : St} {x : Int32} {h0 : mm_H} : ∀ (m k : Nat) (h : mm_H), m + k = 6 → RC (uL S (cutL (sL S) x k)) h → fr AR h0 h → mW none (F + 2) mX3_removeFromAllLines 2 [(2, .int (nI k)), (0, .ref 1), (1, .int x)] [] h (fun r h' => r = none ∧ RC (uL S (cutL (sL S) x 6)) h' ∧ fr AR h0 h') := by
  intro m
  induction m with
  | zero =>
    intro k h hk hR hf
    obtain rfl : k = 6 := by omega
    refine w_iload_n (q := 3) aX3_removeFromAllLines_2 rfl rfl ?_
    refine w_bipush (v := 6) (q := 5) aX3_removeFromAllLines_3 rfl rfl ?_
    refine w_ic_ge (t := 25) (q := 8) aX3_removeFromAllLines_5 (by decide) rfl (fun c5 => ?_) (fun c5 => ?_)
    · refine w_vret aX3_removeFromAllLines_25 rfl ?_
      exact ⟨rfl, hR, hf⟩
    · exact absurd (by decide) c5
  | succ m ih =>
    intro k h hk hR hf
    refine w_iload_n (q := 3) aX3_removeFromAllLines_2 rfl rfl ?_
    refine w_bipush (v := 6) (q := 5) aX3_removeFromAllLines_3 rfl rfl ?_
    refine w_ic_ge (t := 25) (q := 8) aX3_removeFromAllLines_5 (by decide) rfl (fun c5 => ?_) (fun c5 => ?_)
    · exact absurd c5 (nI_ge (b := 6) (by omega) (by omega))
    · obtain ⟨g, hg⟩ := hR.bel (k := k) (by omega)
      refine w_aload_n (q := 9) aX3_removeFromAllLines_8 rfl rfl ?_
      refine w_get (q := 12) aX3_removeFromAllLines_9 f_3_15 (hR.ho) rfl rfl ?_
      refine w_iload_n (q := 13) aX3_removeFromAllLines_12 rfl rfl ?_
      refine w_aald (q := 14) aX3_removeFromAllLines_13 (hR.be) (by decide) (mm_ix_at (n := k) rfl (by omega) (rg_at (by omega))) rfl ?_
      refine w_iload_n (q := 15) aX3_removeFromAllLines_14 rfl rfl ?_
      refine w_callV aX3_removeFromAllLines_15 t_3_71 (this_at rfl hg.1) (rfl) (c_remove hg) (fun r15 h15 hp => ?_)
      obtain ⟨rfl, hg2, hf2⟩ := hp
      refine w_pop (q := 19) aX3_removeFromAllLines_18 rfl rfl ?_
      refine w_iinc (q := 22) (ls' := [(2, _), (0, _), (1, _)]) aX3_removeFromAllLines_19 rfl rfl (by decide) rfl rfl ?_
      refine w_goto (t := 2) aX3_removeFromAllLines_22 (by decide) ?_
      have hR2 := hR.upBe (by omega) hf2 hg2
      rw [fu_id] at hR2
      have e : fu (sL (uL S (cutL (sL S) x k))) k ((sL (uL S (cutL (sL S) x k)) k).erase x) = cutL (sL S) x (k + 1) := by
        funext j
        show fu (cutL (sL S) x k) k ((cutL (sL S) x k k).erase x) j = _
        unfold cutL
        by_cases e : j = k
        · subst e
          rw [fu_s, if_neg (by omega), if_pos (by omega)]
        · rw [fu_n e]
          by_cases e2 : j < k
          · rw [if_pos e2, if_pos (by omega)]
          · rw [if_neg e2, if_neg (by omega)]
      rw [e] at hR2
      rw [show nI k + Int32.ofInt 1 = nI (k + 1) from nI_1 k]
      exact ih (k + 1) h15 (by omega) hR2 (hf.tr (fr_bell (by omega) hf2))
theorem c_removeAll {F : Nat} {h : mm_H} {S : St} {x : Int32} (hR : RC S h) : mW none (F + 2) mX3_removeFromAllLines 0 [(0, .ref 1), (1, .int x)] [] h (fun r h' => r = none ∧ RC (uL S (cutL (sL S) x 6)) h' ∧ fr AR h h') := by
  refine w_iconst (v := 0) (q := 1) aX3_removeFromAllLines_0 rfl rfl ?_
  refine w_istore_n (q := 2) (ls' := [(2, _), (0, _), (1, _)]) aX3_removeFromAllLines_1 (by decide) rfl rfl ?_
  have e : uL S (cutL (sL S) x 0) = S := by
    have : cutL (sL S) x 0 = sL S := by
      funext j
      unfold cutL
      rw [if_neg (by omega)]
    rw [this]
    rfl
  exact l_removeAll (h0 := h) 6 0 h rfl (by rw [e]; exact hR) fr.rf
/-- a bell meets what came up to it -/
def m_bell (S : St) (k : Nat) (e : Int32) : Int32 × St := if ¬ sW S k = 0 ∧ m_met e then (0, uC S (inc (inc (sC S) 3) 9)) else (e, S)
theorem c_metByBell {F : Nat} {h : mm_H} {S : St} {k : Nat} {e : Int32} (hk : k < 6) (hR : RC S h) : mW none (F + 1) mX3_metByBell 0 [(0, .ref 1), (1, .ref (18 + 2 * k)), (2, .int e)] [] h (cP (m_bell S k e) h) := by
  obtain ⟨g, hg⟩ := hR.bel hk
  unfold m_bell
  have bad : ¬ (¬ sW S k = 0 ∧ m_met e) → mW none (F + 1) mX3_metByBell 14 [(0, .ref 1), (1, .ref (18 + 2 * k)), (2, .int e)] [] h (cP (if ¬ sW S k = 0 ∧ m_met e then (0, uC S (inc (inc (sC S) 3) 9)) else (e, S)) h) := fun hn => by
    rw [if_neg hn]
    refine w_iload_n (q := 15) aX3_metByBell_14 rfl rfl ?_
    refine w_iret aX3_metByBell_15 rfl ?_
    exact ⟨rfl, hR, fr.rf⟩
  refine w_aload_n (q := 1) aX3_metByBell_0 rfl rfl ?_
  refine w_get (q := 4) aX3_metByBell_1 f_3_53 (hg.1) rfl rfl ?_
  refine w_if_eq (t := 14) (q := 7) aX3_metByBell_4 (by decide) rfl (fun c4 => ?_) (fun c4 => ?_)
  · exact bad (fun z => z.1 c4)
  · refine w_iload_n (q := 8) aX3_metByBell_7 rfl rfl ?_
    refine w_callS aX3_metByBell_8 x_3_210 t_3_210 (rfl) (c_canBeMet) (fun r8 h8 hp => ?_)
    obtain ⟨rfl, rfl⟩ := hp
    refine w_if_ne (t := 16) (q := 14) aX3_metByBell_11 (by decide) rfl (fun c11 => ?_) (fun c11 => ?_)
    · rw [if_pos ⟨c4, bz_ne0 c11⟩]
      refine w_aload_n (q := 17) aX3_metByBell_16 rfl rfl ?_
      refine w_dup (q := 18) aX3_metByBell_17 rfl rfl ?_
      refine w_get (q := 21) aX3_metByBell_18 f_3_109 (hR.ho) rfl rfl ?_
      refine w_iconst (v := 1) (q := 22) aX3_metByBell_21 rfl rfl ?_
      refine w_iadd (q := 23) aX3_metByBell_22 rfl ?_
      refine w_put (q := 26) (fs' := [_, _, _, _, _, _, _, _, _, _, _, _, _, _, _, _, _]) aX3_metByBell_23 f_3_109 (hR.ho) (Nat.le_of_ble_eq_true rfl) rfl rfl (Or.inl rfl) rfl rfl ?_
      refine w_aload_n (q := 27) aX3_metByBell_26 rfl rfl ?_
      refine w_dup (q := 28) aX3_metByBell_27 rfl rfl ?_
      refine w_get (q := 31) aX3_metByBell_28 f_3_74 (up_s _ _ _) rfl rfl ?_
      refine w_iconst (v := 1) (q := 32) aX3_metByBell_31 rfl rfl ?_
      refine w_iadd (q := 33) aX3_metByBell_32 rfl ?_
      refine w_put (q := 36) (fs' := [_, _, _, _, _, _, _, _, _, _, _, _, _, _, _, _, _]) aX3_metByBell_33 f_3_74 (up_s _ _ _) (Nat.le_of_ble_eq_true rfl) rfl rfl (Or.inl rfl) rfl rfl ?_
      refine w_iconst (v := 0) (q := 37) aX3_metByBell_36 rfl rfl ?_
      refine w_iret aX3_metByBell_37 rfl ?_
      have r1 := hR.upHo (S' := uC S (inc (sC S) 3)) rfl ⟨rfl, rfl, rfl, rfl, rfl, rfl, rfl, rfl⟩
      have r2 := r1.upHo (S' := uC S (inc (inc (sC S) 3) 9)) rfl ⟨rfl, rfl, rfl, rfl, rfl, rfl, rfl, rfl⟩
      exact ⟨rfl, r2, (fr.rf.up (AR_lit (by omega))).up (AR_lit (by omega))⟩
    · exact bad (fun z => bz_eq0 c11 z.2)
/-- a TRY meets what came up to it: t is its tally -/
def m_try (S : St) (t : Nat) (e : Int32) : Int32 × St := if m_met e then (0, uC (uT S (fu (sT S) t (sT S t + 1))) (inc (inc (sC S) 5) 9)) else (e, S)
theorem c_metByTry {F : Nat} {h : mm_H} {S : St} {k t : Nat} {e : Int32} (hk : k < sM S) (ht : t < 8) (hb : (sA S k).2.2.1 = nI t) (hR : RC S h) : mW none (F + 1) mX3_metByTry 0 [(0, .ref 1), (1, .ref (aa k)), (2, .int e)] [] h (cP (m_try S t e) h) := by
  unfold m_try
  refine w_iload_n (q := 1) aX3_metByTry_0 rfl rfl ?_
  refine w_callS aX3_metByTry_1 x_3_210 t_3_210 (rfl) (c_canBeMet) (fun r1 h1 hp => ?_)
  obtain ⟨rfl, rfl⟩ := hp
  refine w_if_ne (t := 9) (q := 7) aX3_metByTry_4 (by decide) rfl (fun c4 => ?_) (fun c4 => ?_)
  · rw [if_pos (bz_ne0 c4)]
    refine w_aload_n (q := 10) aX3_metByTry_9 rfl rfl ?_
    refine w_get (q := 13) aX3_metByTry_10 f_3_9 (hR.ho) rfl rfl ?_
    refine w_aload_n (q := 14) aX3_metByTry_13 rfl rfl ?_
    refine w_get (q := 17) aX3_metByTry_14 f_3_166 (hR.ac hk) rfl rfl ?_
    rw [hb]
    refine w_dup2 (q := 18) aX3_metByTry_17 ⟨rfl, rfl⟩ rfl ?_
    refine w_lald (q := 19) aX3_metByTry_18 (hR.ta) (mm_ix_at (n := t) rfl (by omega) (rg_at ht)) rfl ?_
    refine w_lconst (v := 1) (q := 20) aX3_metByTry_19 rfl rfl ?_
    refine w_ladd (q := 21) aX3_metByTry_20 rfl ?_
    refine w_last (q := 22) (n := t) (vs' := _) aX3_metByTry_21 (hR.ta) (rfl) (by rw [rg_len]; exact ht) (by rw [rg_len]; omega) (rg_set _ _ _ _) rfl ?_
    refine w_aload_n (q := 23) aX3_metByTry_22 rfl rfl ?_
    refine w_dup (q := 24) aX3_metByTry_23 rfl rfl ?_
    refine w_get (q := 27) aX3_metByTry_24 f_3_115 ((up_n (by decide)).trans hR.ho) rfl rfl ?_
    refine w_iconst (v := 1) (q := 28) aX3_metByTry_27 rfl rfl ?_
    refine w_iadd (q := 29) aX3_metByTry_28 rfl ?_
    refine w_put (q := 32) (fs' := [_, _, _, _, _, _, _, _, _, _, _, _, _, _, _, _, _]) aX3_metByTry_29 f_3_115 ((up_n (by decide)).trans hR.ho) (Nat.le_of_ble_eq_true rfl) rfl rfl (Or.inl rfl) rfl rfl ?_
    refine w_aload_n (q := 33) aX3_metByTry_32 rfl rfl ?_
    refine w_dup (q := 34) aX3_metByTry_33 rfl rfl ?_
    refine w_get (q := 37) aX3_metByTry_34 f_3_74 (up_s _ _ _) rfl rfl ?_
    refine w_iconst (v := 1) (q := 38) aX3_metByTry_37 rfl rfl ?_
    refine w_iadd (q := 39) aX3_metByTry_38 rfl ?_
    refine w_put (q := 42) (fs' := [_, _, _, _, _, _, _, _, _, _, _, _, _, _, _, _, _]) aX3_metByTry_39 f_3_74 (up_s _ _ _) (Nat.le_of_ble_eq_true rfl) rfl rfl (Or.inl rfl) rfl rfl ?_
    refine w_iconst (v := 0) (q := 43) aX3_metByTry_42 rfl rfl ?_
    refine w_iret aX3_metByTry_43 rfl ?_
    have r0 := hR.upTa (t := fu (sT S) t (sT S t + 1)) rfl
    rw [← fu_map Value.long] at r0
    have r1 := r0.upHo (S' := uC (uT S (fu (sT S) t (sT S t + 1))) (inc (sC S) 5)) rfl ⟨rfl, rfl, rfl, rfl, rfl, rfl, rfl, rfl⟩
    have r2 := r1.upHo (S' := uC (uT S (fu (sT S) t (sT S t + 1))) (inc (inc (sC S) 5) 9)) rfl ⟨rfl, rfl, rfl, rfl, rfl, rfl, rfl, rfl⟩
    exact ⟨rfl, r2, ((fr.rf.up (AR_lit (by omega))).up (AR_lit (by omega))).up (AR_lit (by omega))⟩
  · rw [if_neg (bz_eq0 c4)]
    refine w_iload_n (q := 8) aX3_metByTry_7 rfl rfl ?_
    refine w_iret aX3_metByTry_8 rfl ?_
    exact ⟨rfl, hR, fr.rf⟩
end
section
/-! WHAT AN ACT AND A RINGING DO: the meaning that class and reference share. Ends: 0 well, 1 to 6 a failure, 7 stopped. -/
def m_begin (S : St) (k : Nat) : St := uB (uC (uS S (sS S + 1)) (inc (sC S) 1)) (fu (sB S) k (sB S k + 1))
/-- the acts that neither do acts nor ring -/
def m_al (s : Nat) (S : St) (A : Act9) (v : Int64) : Int32 × St := match s with
  | 0 => (0, uT S (fu (sT S) A.2.1.toNatClampNeg (sT S A.2.1.toNatClampNeg + (v + A.2.2.1.toInt64))))
  | 1 => (0, uT S (fu (sT S) A.2.1.toNatClampNeg (if v < sT S A.2.1.toNatClampNeg then sT S A.2.1.toNatClampNeg else v)))
  | 2 => (0, uT S (fu (sT S) A.2.1.toNatClampNeg (A.2.2.2.1 + A.2.2.1.toInt64)))
  | 3 => if v = 0 then (1, S) else (0, uT S (fu (sT S) A.2.1.toNatClampNeg (sT S A.2.1.toNatClampNeg / v)))
  | 4 => if rL v then (0, uT S (fu (sT S) v.toInt32.toNatClampNeg (sT S v.toInt32.toNatClampNeg + A.2.2.1.toInt64))) else (2, S)
  | 6 => if (sQ S).length = 20 then (4, S) else (0, uQ S (sQ S ++ [(A.2.1, v + A.2.2.1.toInt64)]))
  | 7 => (7, uC S (inc (sC S) 6))
  | 13 => (0, uL S (cutL (sL S) A.2.1 6))
  | 14 => if A.2.1 ∈ sL S A.2.2.1.toNatClampNeg then (0, S) else if (sL S A.2.2.1.toNatClampNeg).length = 12 then (4, S) else (0, uL S (fu (sL S) A.2.2.1.toNatClampNeg (sL S A.2.2.1.toNatClampNeg ++ [A.2.1])))
  | _ => (0, S)
theorem m_al_0 (S : St) (A : Act9) (v : Int64) : m_al 0 S A v = (0, uT S (fu (sT S) A.2.1.toNatClampNeg (sT S A.2.1.toNatClampNeg + (v + A.2.2.1.toInt64)))) := rfl
theorem m_al_1 (S : St) (A : Act9) (v : Int64) : m_al 1 S A v = (0, uT S (fu (sT S) A.2.1.toNatClampNeg (if v < sT S A.2.1.toNatClampNeg then sT S A.2.1.toNatClampNeg else v))) := rfl
theorem m_al_2 (S : St) (A : Act9) (v : Int64) : m_al 2 S A v = (0, uT S (fu (sT S) A.2.1.toNatClampNeg (A.2.2.2.1 + A.2.2.1.toInt64))) := rfl
theorem m_al_3 (S : St) (A : Act9) (v : Int64) : m_al 3 S A v = if v = 0 then (1, S) else (0, uT S (fu (sT S) A.2.1.toNatClampNeg (sT S A.2.1.toNatClampNeg / v))) := rfl
theorem m_al_4 (S : St) (A : Act9) (v : Int64) : m_al 4 S A v = if rL v then (0, uT S (fu (sT S) v.toInt32.toNatClampNeg (sT S v.toInt32.toNatClampNeg + A.2.2.1.toInt64))) else (2, S) := rfl
theorem m_al_6 (S : St) (A : Act9) (v : Int64) : m_al 6 S A v = if (sQ S).length = 20 then (4, S) else (0, uQ S (sQ S ++ [(A.2.1, v + A.2.2.1.toInt64)])) := rfl
theorem m_al_7 (S : St) (A : Act9) (v : Int64) : m_al 7 S A v = (7, uC S (inc (sC S) 6)) := rfl
theorem m_al_13 (S : St) (A : Act9) (v : Int64) : m_al 13 S A v = (0, uL S (cutL (sL S) A.2.1 6)) := rfl
theorem m_al_14 (S : St) (A : Act9) (v : Int64) : m_al 14 S A v = if A.2.1 ∈ sL S A.2.2.1.toNatClampNeg then (0, S) else if (sL S A.2.2.1.toNatClampNeg).length = 12 then (4, S) else (0, uL S (fu (sL S) A.2.2.1.toNatClampNeg (sL S A.2.2.1.toNatClampNeg ++ [A.2.1]))) := rfl
abbrev Pf : Type := St → Option Nat → Int64 → Int32 × St
/-- those that were in line of bell k are told -/
def m_loop (pf : Pf) (k : Nat) (v : Int64) : List Int32 → St → Int32 × St
  | [], S => (0, S)
  | x :: xs, S => if x ∈ sL S k then
      (if (m_bell (pf S (sH S x.toNatClampNeg) v).2 k (pf S (sH S x.toNatClampNeg) v).1).1 = 0 then m_loop pf k v xs (m_bell (pf S (sH S x.toNatClampNeg) v).2 k (pf S (sH S x.toNatClampNeg) v).1).2
       else m_bell (pf S (sH S x.toNatClampNeg) v).2 k (pf S (sH S x.toNatClampNeg) v).1)
    else m_loop pf k v xs S
def m_well (e : Int32) : Int32 := if e = 7 then 0 else e
def m_ring (pf : Pf) (S : St) (k : Nat) (v : Int64) : Int32 × St := if 8 ≤ sD S then (5, S) else
  (m_well (m_loop pf k v (sL S k) (uC (uD S (sD S + 1)) (inc (sC S) 2))).1, uD (m_loop pf k v (sL S k) (uC (uD S (sD S + 1)) (inc (sC S) 2))).2 (sD (m_loop pf k v (sL S k) (uC (uD S (sD S + 1)) (inc (sC S) 2))).2 - 1))
def m_pf (pf : Pf) (s : Nat) (S : St) (k : Nat) (A : Act9) (v : Int64) : Int32 × St := match s with
  | 5 => m_ring pf S A.2.1.toNatClampNeg (v + A.2.2.1.toInt64)
  | 8 => if nI (sB S k) ≤ A.2.2.1 then pf S A.2.2.2.2.1 v else (0, S)
  | 9 => if nI (sB S k) - nI (sB S k) / (if A.2.2.1 < 1 then 1 else A.2.2.1) * (if A.2.2.1 < 1 then 1 else A.2.2.1) = 0 then pf S A.2.2.2.2.1 v else (0, S)
  | 10 => if 0 < sT S A.2.2.1.toNatClampNeg then pf S A.2.2.2.2.1 v else (0, S)
  | 11 => if (pf S A.2.2.2.2.1 v).1 = 0 then pf (pf S A.2.2.2.2.1 v).2 A.2.2.2.2.2 v else pf S A.2.2.2.2.1 v
  | 12 => m_try (pf S A.2.2.2.2.1 v).2 A.2.2.1.toNatClampNeg (pf S A.2.2.2.2.1 v).1
  | s => m_al s S A v
theorem m_pf_5 (pf : Pf) (S : St) (k : Nat) (A : Act9) (v : Int64) : m_pf pf 5 S k A v = m_ring pf S A.2.1.toNatClampNeg (v + A.2.2.1.toInt64) := rfl
theorem m_pf_8 (pf : Pf) (S : St) (k : Nat) (A : Act9) (v : Int64) : m_pf pf 8 S k A v = if nI (sB S k) ≤ A.2.2.1 then pf S A.2.2.2.2.1 v else (0, S) := rfl
theorem m_pf_9 (pf : Pf) (S : St) (k : Nat) (A : Act9) (v : Int64) : m_pf pf 9 S k A v = if nI (sB S k) - nI (sB S k) / (if A.2.2.1 < 1 then 1 else A.2.2.1) * (if A.2.2.1 < 1 then 1 else A.2.2.1) = 0 then pf S A.2.2.2.2.1 v else (0, S) := rfl
theorem m_pf_10 (pf : Pf) (S : St) (k : Nat) (A : Act9) (v : Int64) : m_pf pf 10 S k A v = if 0 < sT S A.2.2.1.toNatClampNeg then pf S A.2.2.2.2.1 v else (0, S) := rfl
theorem m_pf_11 (pf : Pf) (S : St) (k : Nat) (A : Act9) (v : Int64) : m_pf pf 11 S k A v = if (pf S A.2.2.2.2.1 v).1 = 0 then pf (pf S A.2.2.2.2.1 v).2 A.2.2.2.2.2 v else pf S A.2.2.2.2.1 v := rfl
theorem m_pf_12 (pf : Pf) (S : St) (k : Nat) (A : Act9) (v : Int64) : m_pf pf 12 S k A v = m_try (pf S A.2.2.2.2.1 v).2 A.2.2.1.toNatClampNeg (pf S A.2.2.2.2.1 v).1 := rfl
def m_perf : Nat → Pf
  | 0, S, _, _ => (6, S)
  | _ + 1, S, none, _ => (3, S)
  | n + 1, S, some k, v => if 200 ≤ sS S then (6, S) else m_pf (m_perf n) (sA S k).1.toNatClampNeg (m_begin S k) k (sA S k) v
/-- the queue is rung till it is empty, or a failure comes up -/
def m_drain (pf : Pf) : Nat → Int32 → St → Int32 × St
  | 0, e, S => (e, S)
  | n + 1, e, S => if e = 0 then (match sQ S with
      | [] => (0, S)
      | q :: qs => m_drain pf n (m_ring pf (uQ S qs) q.1.toNatClampNeg q.2).1 (m_ring pf (uQ S qs) q.1.toNatClampNeg q.2).2)
    else (e, S)
/-! what always holds of a state -/
def okA (m : Nat) (A : Act9) : Prop := p_can m A.1 A.2.1 A.2.2.1 ∧ (∀ k, A.2.2.2.2.1 = some k → k < m) ∧ ∀ k, A.2.2.2.2.2 = some k → k < m
def Ok (S : St) : Prop := sM S ≤ 40 ∧ (∀ j k, sH S j = some k → k < sM S) ∧ (∀ k, k < sM S → okA (sM S) (sA S k)) ∧ (∀ k, k < 6 → ∀ x ∈ sL S k, rN (sM S) x) ∧ (∀ e ∈ sQ S, rN 6 e.1) ∧ sD S ≤ 8 ∧ sS S ≤ 200
/-- what a step leaves as it was -/
def Sa (S S' : St) : Prop := sM S' = sM S ∧ sA S' = sA S ∧ sH S' = sH S ∧ sW S' = sW S ∧ sD S' = sD S
theorem Sa.rf (S : St) : Sa S S := ⟨rfl, rfl, rfl, rfl, rfl⟩
theorem Sa.tr {S S1 S2 : St} (h : Sa S S1) (g : Sa S1 S2) : Sa S S2 := ⟨g.1.trans h.1, g.2.1.trans h.2.1, g.2.2.1.trans h.2.2.1, g.2.2.2.1.trans h.2.2.2.1, g.2.2.2.2.trans h.2.2.2.2⟩
/-- from S one comes to S' within a call: all stays right, steps only grow -/
def Go (S S' : St) : Prop := (Ok S → Ok S') ∧ Sa S S' ∧ sS S ≤ sS S'
theorem Go.rf (S : St) : Go S S := ⟨id, Sa.rf S, Nat.le_refl _⟩
theorem Go.tr {S S1 S2 : St} (h : Go S S1) (g : Go S1 S2) : Go S S2 := ⟨fun o => g.1 (h.1 o), h.2.1.tr g.2.1, Nat.le_trans h.2.2 g.2.2⟩
theorem Go.T (S : St) (t : Nat → Int64) : Go S (uT S t) := ⟨id, ⟨rfl, rfl, rfl, rfl, rfl⟩, Nat.le_refl _⟩
theorem Go.C (S : St) (t : Nat → Int32) : Go S (uC S t) := ⟨id, ⟨rfl, rfl, rfl, rfl, rfl⟩, Nat.le_refl _⟩
theorem Go.B (S : St) (t : Nat → Nat) : Go S (uB S t) := ⟨id, ⟨rfl, rfl, rfl, rfl, rfl⟩, Nat.le_refl _⟩
theorem Go.Q {S : St} {q : List (Int32 × Int64)} (h : ∀ e ∈ q, rN 6 e.1) : Go S (uQ S q) := ⟨fun o => ⟨o.1, o.2.1, o.2.2.1, o.2.2.2.1, h, o.2.2.2.2.2⟩, ⟨rfl, rfl, rfl, rfl, rfl⟩, Nat.le_refl _⟩
theorem Go.L {S : St} {l : Nat → List Int32} (h : Ok S → ∀ k, k < 6 → ∀ x ∈ l k, rN (sM S) x) : Go S (uL S l) := ⟨fun o => ⟨o.1, o.2.1, o.2.2.1, h o, o.2.2.2.2⟩, ⟨rfl, rfl, rfl, rfl, rfl⟩, Nat.le_refl _⟩
theorem Go.begin {S : St} {k : Nat} (h : ¬ 200 ≤ sS S) : Go S (m_begin S k) := ⟨fun o => ⟨o.1, o.2.1, o.2.2.1, o.2.2.2.1, o.2.2.2.2.1, o.2.2.2.2.2.1, by show sS S + 1 ≤ 200; omega⟩, ⟨rfl, rfl, rfl, rfl, rfl⟩, Nat.le_succ _⟩
theorem Go.bell (S : St) (k : Nat) (e : Int32) : Go S (m_bell S k e).2 := by
  unfold m_bell
  split
  · exact Go.C _ _
  · exact Go.rf S
theorem Go.try (S : St) (k : Nat) (e : Int32) : Go S (m_try S k e).2 := by
  unfold m_try
  split
  · exact (Go.T _ _).tr (Go.C _ _)
  · exact Go.rf S
theorem rN_sort {m : Nat} {A : Act9} (h : okA m A) : ∃ j, j < 15 ∧ A.1 = nI j := rN_of (by omega) (can_in h.1)
theorem Go.al {S : St} {A : Act9} {v : Int64} (s : Nat) (hs : A.1 = nI s) (hs2 : s < 15) (hA : okA (sM S) A) : Go S (m_al s S A v).2 ∨ ¬ Ok S := by
  by_cases ho : Ok S
  · left
    unfold m_al
    split
    · exact Go.T _ _
    · exact Go.T _ _
    · exact Go.T _ _
    · split
      · exact Go.rf S
      · exact Go.T _ _
    · split
      · exact Go.T _ _
      · exact Go.rf S
    · split
      · exact Go.rf S
      · refine Go.Q (fun e he => ?_)
        rcases List.mem_append.mp he with h | h
        · exact ho.2.2.2.2.1 e h
        · rw [List.mem_singleton.mp h]
          have h9 := hA.1
          rw [hs] at h9
          exact can_6.mpr h9
    · exact Go.C _ _
    · refine Go.L (fun o k hk x hx => ?_)
      have hx2 : x ∈ cutL (sL S) A.2.1 6 k := hx
      unfold cutL at hx2
      rw [if_pos hk] at hx2
      exact ho.2.2.2.1 k hk x (List.mem_of_mem_erase hx2)
    · split
      · exact Go.rf S
      · split
        · exact Go.rf S
        · refine Go.L (fun o k hk x hx => ?_)
          unfold fu at hx
          split at hx
          · rename_i e
            subst e
            rcases List.mem_append.mp hx with h | h
            · exact ho.2.2.2.1 _ hk x h
            · rw [List.mem_singleton.mp h]
              have h9 := hA.1
              rw [hs] at h9
              exact (can_14.mpr h9).1
          · exact ho.2.2.2.1 k hk x hx
    · exact Go.rf S
  · exact Or.inr ho
/-- a performing that keeps what always holds -/
def PfOk (pf : Pf) : Prop := ∀ S o v, Ok S → (∀ k, o = some k → k < sM S) → Go S (pf S o v).2
theorem Go.loop {pf : Pf} (hp : PfOk pf) {k : Nat} {v : Int64} : ∀ (xs : List Int32) (S : St), Ok S → Go S (m_loop pf k v xs S).2 := by
  intro xs
  induction xs with
  | nil => intro S _; exact Go.rf S
  | cons x xs ih =>
    intro S ho
    unfold m_loop
    split
    · have g1 := hp S (sH S x.toNatClampNeg) v ho (ho.2.1 _)
      have g2 := g1.tr (Go.bell _ k (pf S (sH S x.toNatClampNeg) v).1)
      split
      · exact g2.tr (ih _ (g2.1 ho))
      · exact g2
    · exact ih S ho
theorem Go.ring {pf : Pf} (hp : PfOk pf) {S : St} {k : Nat} {v : Int64} (ho : Ok S) : Go S (m_ring pf S k v).2 := by
  unfold m_ring
  split
  · exact Go.rf S
  · rename_i hd
    have o1 : Ok (uC (uD S (sD S + 1)) (inc (sC S) 2)) := ⟨ho.1, ho.2.1, ho.2.2.1, ho.2.2.2.1, ho.2.2.2.2.1, by show sD S + 1 ≤ 8; omega, ho.2.2.2.2.2.2⟩
    have g := Go.loop hp (k := k) (v := v) (sL S k) _ o1
    have o2 := g.1 o1
    have hd2 : sD (m_loop pf k v (sL S k) (uC (uD S (sD S + 1)) (inc (sC S) 2))).2 = sD S + 1 := g.2.1.2.2.2.2
    refine ⟨fun _ => ⟨o2.1, o2.2.1, o2.2.2.1, o2.2.2.2.1, o2.2.2.2.2.1, ?_, o2.2.2.2.2.2.2⟩, ⟨g.2.1.1, g.2.1.2.1, g.2.1.2.2.1, g.2.1.2.2.2.1, ?_⟩, g.2.2⟩
    · show sD _ - 1 ≤ 8
      omega
    · show sD _ - 1 = sD S
      omega
theorem PfOk.perf : ∀ n, PfOk (m_perf n) := by
  intro n
  induction n with
  | zero => intro S o v _ _; exact Go.rf S
  | succ n ih =>
    intro S o v ho hk
    cases o with
    | none => exact Go.rf S
    | some k =>
      have hkm := hk k rfl
      unfold m_perf
      split
      · exact Go.rf S
      · rename_i h2
        have g0 : Go S (m_begin S k) := Go.begin h2
        have o0 := g0.1 ho
        have hA : okA (sM S) (sA S k) := ho.2.2.1 k hkm
        obtain ⟨j, hj, ej⟩ := rN_sort hA
        refine g0.tr ?_
        rw [ej, nI_clamp (by omega)]
        unfold m_pf
        split
        · exact Go.ring ih o0
        · split
          · exact ih _ _ _ o0 hA.2.1
          · exact Go.rf _
        · (repeat' split) <;> first | exact ih _ _ _ o0 hA.2.1 | exact Go.rf _
        · split
          · exact ih _ _ _ o0 hA.2.1
          · exact Go.rf _
        · have g1 := ih (m_begin S k) (sA S k).2.2.2.2.1 v o0 hA.2.1
          split
          · refine g1.tr (ih _ _ _ (g1.1 o0) (fun q hq => ?_))
            rw [g1.2.1.1]
            exact hA.2.2 q hq
          · exact g1
        · have g1 := ih (m_begin S k) (sA S k).2.2.2.2.1 v o0 hA.2.1
          exact g1.tr (Go.try _ _ _)
        · exact (Go.al (S := m_begin S k) j ej hj hA).resolve_right (fun z => z o0)
end
section
theorem QR.obj {h : mm_H} {q : List (Int32 × Int64)} (hq : QR h q) : ∃ fs, h.2.2 4 = some (2, fs) := by
  obtain ⟨hd, fb, fv, h4, -⟩ := hq
  exact ⟨_, h4⟩
theorem c_alone {F : Nat} {h : mm_H} {S : St} {k j : Nat} {v : Int64} (ho : Ok S) (hk : k < sM S) (hR : RC S h) (ej : (sA S k).1 = nI j) (hj : j < 15) (hn : ¬ j = 5 ∧ ¬ (8 ≤ j ∧ j ≤ 12)) : mW none (F + 4) mX3_performAlone 0 [(0, .ref 1), (1, .ref (aa k)), (2, .long v)] [] h (cP (m_al j S (sA S k) v) h) := by
  have hac := hR.ac hk
  have hA := ho.2.2.1 k hk
  have hM := ho.1
  have hcan := hA.1
  rw [ej] at hcan
  refine w_aload_n (q := 1) aX3_performAlone_0 rfl rfl ?_
  refine w_get (q := 4) aX3_performAlone_1 f_3_160 (hac) rfl rfl ?_
  rw [ej]
  have hcs : j = 0 ∨ j = 1 ∨ j = 2 ∨ j = 3 ∨ j = 4 ∨ j = 6 ∨ j = 7 ∨ j = 13 ∨ j = 14 := by omega
  rcases hcs with rfl | rfl | rfl | rfl | rfl | rfl | rfl | rfl | rfl
  · obtain ⟨i, hi, ei⟩ := rN_of (by omega) (can_0.mpr hcan)
    refine w_table (t := 80) (o := 76) aX3_performAlone_4 (by skip; decide) (by skip; decide) (by skip; rfl) (by decide) ?_
    refine w_aload_n (q := 81) aX3_performAlone_80 rfl rfl ?_
    refine w_get (q := 84) aX3_performAlone_81 f_3_9 (hR.ho) rfl rfl ?_
    refine w_aload_n (q := 85) aX3_performAlone_84 rfl rfl ?_
    refine w_get (q := 88) aX3_performAlone_85 f_3_163 (hac) rfl rfl ?_
    rw [ei]
    refine w_dup2 (q := 89) aX3_performAlone_88 ⟨rfl, rfl⟩ rfl ?_
    refine w_lald (q := 90) aX3_performAlone_89 (hR.ta) (mm_ix_at (n := i) rfl (by omega) (rg_at hi)) rfl ?_
    refine w_lload_n (q := 91) aX3_performAlone_90 rfl rfl ?_
    refine w_aload_n (q := 92) aX3_performAlone_91 rfl rfl ?_
    refine w_get (q := 95) aX3_performAlone_92 f_3_166 (hac) rfl rfl ?_
    refine w_i2l (q := 96) aX3_performAlone_95 rfl ?_
    refine w_ladd (q := 97) aX3_performAlone_96 rfl ?_
    refine w_ladd (q := 98) aX3_performAlone_97 rfl ?_
    refine w_last (q := 99) (n := i) (vs' := _) aX3_performAlone_98 (hR.ta) (rfl) (by rw [rg_len]; exact hi) (by rw [rg_len]; omega) (rg_set _ _ _ _) rfl ?_
    refine w_iconst (v := 0) (q := 100) aX3_performAlone_99 rfl rfl ?_
    refine w_iret aX3_performAlone_100 rfl ?_
    rw [m_al_0]
    rw [ei, nI_clamp (by omega)]
    exact ⟨rfl, hR.upTa (by rw [fu_map Value.long]), fr.rf.up (AR_lit (by omega))⟩
  · obtain ⟨i, hi, ei⟩ := rN_of (by omega) (can_1.mpr hcan)
    refine w_table (t := 101) (o := 97) aX3_performAlone_4 (by skip; decide) (by skip; decide) (by skip; rfl) (by decide) ?_
    refine w_aload_n (q := 102) aX3_performAlone_101 rfl rfl ?_
    refine w_get (q := 105) aX3_performAlone_102 f_3_9 (hR.ho) rfl rfl ?_
    refine w_aload_n (q := 106) aX3_performAlone_105 rfl rfl ?_
    refine w_get (q := 109) aX3_performAlone_106 f_3_163 (hac) rfl rfl ?_
    refine w_aload_n (q := 110) aX3_performAlone_109 rfl rfl ?_
    refine w_get (q := 113) aX3_performAlone_110 f_3_9 (hR.ho) rfl rfl ?_
    refine w_aload_n (q := 114) aX3_performAlone_113 rfl rfl ?_
    refine w_get (q := 117) aX3_performAlone_114 f_3_163 (hac) rfl rfl ?_
    rw [ei]
    refine w_lald (q := 118) aX3_performAlone_117 (hR.ta) (mm_ix_at (n := i) rfl (by omega) (rg_at hi)) rfl ?_
    refine w_lload_n (q := 119) aX3_performAlone_118 rfl rfl ?_
    refine w_maxJ (q := 122) aX3_performAlone_119 x_3_189 (Nat.le_of_ble_eq_true rfl) rfl ?_
    refine w_last (q := 123) (n := i) (vs' := _) aX3_performAlone_122 (hR.ta) (rfl) (by rw [rg_len]; exact hi) (by rw [rg_len]; omega) (rg_set _ _ _ _) rfl ?_
    refine w_iconst (v := 0) (q := 124) aX3_performAlone_123 rfl rfl ?_
    refine w_iret aX3_performAlone_124 rfl ?_
    rw [m_al_1]
    rw [ei, nI_clamp (by omega)]
    exact ⟨rfl, hR.upTa (by rw [fu_map Value.long]), fr.rf.up (AR_lit (by omega))⟩
  · obtain ⟨i, hi, ei⟩ := rN_of (by omega) (can_2 hcan)
    refine w_table (t := 125) (o := 121) aX3_performAlone_4 (by skip; decide) (by skip; decide) (by skip; rfl) (by decide) ?_
    refine w_aload_n (q := 126) aX3_performAlone_125 rfl rfl ?_
    refine w_get (q := 129) aX3_performAlone_126 f_3_9 (hR.ho) rfl rfl ?_
    refine w_aload_n (q := 130) aX3_performAlone_129 rfl rfl ?_
    refine w_get (q := 133) aX3_performAlone_130 f_3_163 (hac) rfl rfl ?_
    rw [ei]
    refine w_aload_n (q := 134) aX3_performAlone_133 rfl rfl ?_
    refine w_get (q := 137) aX3_performAlone_134 f_3_192 (hac) rfl rfl ?_
    refine w_aload_n (q := 138) aX3_performAlone_137 rfl rfl ?_
    refine w_get (q := 141) aX3_performAlone_138 f_3_166 (hac) rfl rfl ?_
    refine w_i2l (q := 142) aX3_performAlone_141 rfl ?_
    refine w_ladd (q := 143) aX3_performAlone_142 rfl ?_
    refine w_last (q := 144) (n := i) (vs' := _) aX3_performAlone_143 (hR.ta) (rfl) (by rw [rg_len]; exact hi) (by rw [rg_len]; omega) (rg_set _ _ _ _) rfl ?_
    refine w_iconst (v := 0) (q := 145) aX3_performAlone_144 rfl rfl ?_
    refine w_iret aX3_performAlone_145 rfl ?_
    rw [m_al_2]
    rw [ei, nI_clamp (by omega)]
    exact ⟨rfl, hR.upTa (by rw [fu_map Value.long]), fr.rf.up (AR_lit (by omega))⟩
  · obtain ⟨i, hi, ei⟩ := rN_of (by omega) (can_3.mpr hcan)
    refine w_table (t := 146) (o := 142) aX3_performAlone_4 (by skip; decide) (by skip; decide) (by skip; rfl) (by decide) ?_
    refine w_aload_n (q := 147) aX3_performAlone_146 rfl rfl ?_
    refine w_aload_n (q := 148) aX3_performAlone_147 rfl rfl ?_
    refine w_get (q := 151) aX3_performAlone_148 f_3_163 (hac) rfl rfl ?_
    rw [ei]
    refine w_lload_n (q := 152) aX3_performAlone_151 rfl rfl ?_
    refine w_callV aX3_performAlone_152 t_3_196 (this_at rfl hR.ho) (rfl) (c_shareTally hi hR) (fun r152 h152 hp => ?_)
    obtain ⟨rfl, hR2, hf⟩ := hp
    refine w_iret aX3_performAlone_155 rfl ?_
    rw [m_al_3]
    rw [ei, nI_clamp (by omega)]
    exact ⟨rfl, hR2, hf⟩
  · refine w_table (t := 156) (o := 152) aX3_performAlone_4 (by skip; decide) (by skip; decide) (by skip; rfl) (by decide) ?_
    refine w_aload_n (q := 157) aX3_performAlone_156 rfl rfl ?_
    refine w_lload_n (q := 158) aX3_performAlone_157 rfl rfl ?_
    refine w_aload_n (q := 159) aX3_performAlone_158 rfl rfl ?_
    refine w_get (q := 162) aX3_performAlone_159 f_3_166 (hac) rfl rfl ?_
    refine w_callV aX3_performAlone_162 t_3_199 (this_at rfl hR.ho) (rfl) (c_addAtPlace hR) (fun r162 h162 hp => ?_)
    obtain ⟨rfl, hR2, hf⟩ := hp
    refine w_iret aX3_performAlone_165 rfl ?_
    exact ⟨rfl, hR2, hf⟩
  · refine w_table (t := 166) (o := 162) aX3_performAlone_4 (by skip; decide) (by skip; decide) (by skip; rfl) (by decide) ?_
    obtain ⟨fs, h4⟩ := hR.qu.obj
    refine w_aload_n (q := 167) aX3_performAlone_166 rfl rfl ?_
    refine w_get (q := 170) aX3_performAlone_167 f_3_22 (hR.ho) rfl rfl ?_
    refine w_aload_n (q := 171) aX3_performAlone_170 rfl rfl ?_
    refine w_get (q := 174) aX3_performAlone_171 f_3_163 (hac) rfl rfl ?_
    refine w_lload_n (q := 175) aX3_performAlone_174 rfl rfl ?_
    refine w_aload_n (q := 176) aX3_performAlone_175 rfl rfl ?_
    refine w_get (q := 179) aX3_performAlone_176 f_3_166 (hac) rfl rfl ?_
    refine w_i2l (q := 180) aX3_performAlone_179 rfl ?_
    refine w_ladd (q := 181) aX3_performAlone_180 rfl ?_
    refine w_callV aX3_performAlone_181 t_3_203 (this_at rfl h4) (rfl) (c_qAppend hR.qu) (fun r181 h181 hp => ?_)
    rw [m_al_6]
    rcases hp with ⟨hl, rfl, rfl⟩ | ⟨hl, rfl, hq, hf⟩
    · rw [if_pos hl]
      refine w_if_eq (t := 191) (q := 187) aX3_performAlone_184 (by decide) rfl (fun c184 => ?_) (fun c184 => ?_)
      · refine w_iconst (v := 4) (q := 192) aX3_performAlone_191 rfl rfl ?_
        refine w_iret aX3_performAlone_192 rfl ?_
        exact ⟨rfl, hR, fr.rf⟩
      · exact absurd rfl c184
    · rw [if_neg (by omega)]
      refine w_if_eq (t := 191) (q := 187) aX3_performAlone_184 (by decide) rfl (fun c184 => ?_) (fun c184 => ?_)
      · exact absurd c184 (by decide)
      · refine w_iconst (v := 0) (q := 188) aX3_performAlone_187 rfl rfl ?_
        refine w_goto (t := 192) aX3_performAlone_188 (by decide) ?_
        refine w_iret aX3_performAlone_192 rfl ?_
        exact ⟨rfl, hR.upQu hf hq, hf.mono (fun q hq => AR_lit (by unfold Aq at hq; omega))⟩
  · refine w_table (t := 193) (o := 189) aX3_performAlone_4 (by skip; decide) (by skip; decide) (by skip; rfl) (by decide) ?_
    refine w_aload_n (q := 194) aX3_performAlone_193 rfl rfl ?_
    refine w_dup (q := 195) aX3_performAlone_194 rfl rfl ?_
    refine w_get (q := 198) aX3_performAlone_195 f_3_118 (hR.ho) rfl rfl ?_
    refine w_iconst (v := 1) (q := 199) aX3_performAlone_198 rfl rfl ?_
    refine w_iadd (q := 200) aX3_performAlone_199 rfl ?_
    refine w_put (q := 203) (fs' := [_, _, _, _, _, _, _, _, _, _, _, _, _, _, _, _, _]) aX3_performAlone_200 f_3_118 (hR.ho) (Nat.le_of_ble_eq_true rfl) rfl rfl (Or.inl rfl) rfl rfl ?_
    refine w_bipush (v := 7) (q := 205) aX3_performAlone_203 rfl rfl ?_
    refine w_iret aX3_performAlone_205 rfl ?_
    exact ⟨rfl, hR.upHo (S' := uC S (inc (sC S) 6)) rfl ⟨rfl, rfl, rfl, rfl, rfl, rfl, rfl, rfl⟩, fr.rf.up (AR_lit (by omega))⟩
  · refine w_table (t := 206) (o := 202) aX3_performAlone_4 (by skip; decide) (by skip; decide) (by skip; rfl) (by decide) ?_
    refine w_aload_n (q := 207) aX3_performAlone_206 rfl rfl ?_
    refine w_aload_n (q := 208) aX3_performAlone_207 rfl rfl ?_
    refine w_get (q := 211) aX3_performAlone_208 f_3_163 (hac) rfl rfl ?_
    refine w_callV aX3_performAlone_211 t_3_206 (this_at rfl hR.ho) (rfl) (c_removeAll hR) (fun r211 h211 hp => ?_)
    obtain ⟨rfl, hR2, hf⟩ := hp
    refine w_iconst (v := 0) (q := 215) aX3_performAlone_214 rfl rfl ?_
    refine w_iret aX3_performAlone_215 rfl ?_
    exact ⟨rfl, hR2, hf⟩
  · obtain ⟨i, hi, ei⟩ := rN_of (by omega) (can_14.mpr hcan).2
    obtain ⟨g, hg⟩ := hR.bel hi
    refine w_table (t := 216) (o := 212) aX3_performAlone_4 (by skip; decide) (by skip; decide) (by skip; rfl) (by decide) ?_
    refine w_aload_n (q := 217) aX3_performAlone_216 rfl rfl ?_
    refine w_get (q := 220) aX3_performAlone_217 f_3_15 (hR.ho) rfl rfl ?_
    refine w_aload_n (q := 221) aX3_performAlone_220 rfl rfl ?_
    refine w_get (q := 224) aX3_performAlone_221 f_3_166 (hac) rfl rfl ?_
    rw [ei]
    refine w_aald (q := 225) aX3_performAlone_224 (hR.be) (by decide) (mm_ix_at (n := i) rfl (by omega) (rg_at hi)) rfl ?_
    refine w_aload_n (q := 226) aX3_performAlone_225 rfl rfl ?_
    refine w_get (q := 229) aX3_performAlone_226 f_3_163 (hac) rfl rfl ?_
    refine w_callV aX3_performAlone_229 t_3_67 (this_at rfl hg.1) (rfl) (c_append hg) (fun r229 h229 hp => ?_)
    rw [m_al_14]
    rw [ei, nI_clamp (by omega)]
    rcases hp with ⟨hin, rfl, rfl⟩ | ⟨hin, hl, rfl, rfl⟩ | ⟨hin, hl, rfl, hg2, hf⟩
    · rw [if_pos hin]
      refine w_bipush (v := -3) (q := 234) aX3_performAlone_232 rfl rfl ?_
      refine w_ic_ne (t := 241) (q := 237) aX3_performAlone_234 (by decide) rfl (fun c234 => ?_) (fun c234 => ?_)
      · refine w_iconst (v := 0) (q := 242) aX3_performAlone_241 rfl rfl ?_
        refine w_iret aX3_performAlone_242 rfl ?_
        exact ⟨rfl, hR, fr.rf⟩
      · exact absurd c234 (by decide)
    · rw [if_neg hin, if_pos hl]
      refine w_bipush (v := -3) (q := 234) aX3_performAlone_232 rfl rfl ?_
      refine w_ic_ne (t := 241) (q := 237) aX3_performAlone_234 (by decide) rfl (fun c234 => ?_) (fun c234 => ?_)
      · exact absurd rfl c234
      · refine w_iconst (v := 4) (q := 238) aX3_performAlone_237 rfl rfl ?_
        refine w_goto (t := 242) aX3_performAlone_238 (by decide) ?_
        refine w_iret aX3_performAlone_242 rfl ?_
        exact ⟨rfl, hR, fr.rf⟩
    · rw [if_neg hin, if_neg (by omega)]
      refine w_bipush (v := -3) (q := 234) aX3_performAlone_232 rfl rfl ?_
      refine w_ic_ne (t := 241) (q := 237) aX3_performAlone_234 (by decide) rfl (fun c234 => ?_) (fun c234 => ?_)
      · refine w_iconst (v := 0) (q := 242) aX3_performAlone_241 rfl rfl ?_
        refine w_iret aX3_performAlone_242 rfl ?_
        have hR2 := hR.upBe hi hf hg2
        rw [fu_id] at hR2
        exact ⟨rfl, hR2, fr_bell hi hf⟩
      · have := nI_pos (n := (sL S i).length) (by omega)
        rw [c234] at this
        exact absurd (by decide) this
end
section
/-- the end of an act or a ringing in the class: beside the state, the rows of the ringings under way are as they were -/
def fP (q : Int32 × St) (S : St) (h : mm_H) : Option Value → mm_H → Prop := fun r h' => r = some (.int q.1) ∧ RC q.2 h' ∧ fr AC h h' ∧ ∀ e, e < sD S → h'.2.2 (10 + e) = h.2.2 (10 + e)
theorem fP.of {q : Int32 × St} {S : St} {h h' : mm_H} {r : Option Value} (ho : Ok S) (hp : cP q h r h') : fP q S h r h' := ⟨hp.1, hp.2.1, hp.2.2.mono (fun _ z => z.1), fun e he => hp.2.2.2.2 _ (fun z => z.2 (by have := ho.2.2.2.2.2.1; omega))⟩
/-- performing, as far as n goes -/
def PerfOK (n : Nat) : Prop := ∀ (F : Nat) (h : mm_H) (S : St) (o : Option Nat) (v : Int64), 3 * n + 8 ≤ F → Ok S → RC S h → (∀ k, o = some k → k < sM S) → 201 ≤ n + sS S → mW none F mX3_perform 0 [(0, .ref 1), (1, va_rf (o.map aa)), (2, .long v)] [] h (fP (m_perf n S o v) S h)
theorem call3 {M : mm_T} {o : Option Nat} {v : Int64} {a : Nat} {rest : List Value} (hM : 4 ≤ M.2.2.2.1) (hr : (rest.map fun v => v.category).sum ≤ 8) : mm_call M (2 + 1) (.long v :: va_rf o :: .ref a :: rest) = some (.inr (.inl (M, [.ref a, va_rf o, .long v], rest))) := by
  unfold mm_call
  have h3 : (((Value.long v :: va_rf o :: .ref a :: rest).take (2 + 1)).map fun v => v.category).sum ≤ M.2.2.2.1 := by
    show (Value.long v).category + ((va_rf o).category + ((Value.ref a).category + 0)) ≤ _
    rw [rf_cat]
    exact hM
  rw [if_pos ⟨by simp, by simpa using hr, h3⟩]
  rfl
theorem lvA3 {o : Option Nat} {v : Int64} {a : Nat} : lv_args 0 [.ref a, va_rf o, .long v] = [(0, .ref a), (1, va_rf o), (2, .long v)] := by cases o <;> rfl
theorem hx_in {S : St} {x : Int32} (ho : Ok S) (h : rN (sM S) x) : ∃ i, i < sM S ∧ x = nI i := rN_of (by have := ho.1; omega) h
theorem l_ringBell {n : Nat} (ih : PerfOK n) {F : Nat} (hF : 3 * n + 10 ≤ F + 2) {S0 : St} {h0 : mm_H} {j d : Nat} {v : Int64} {l rr : List Int32} {e0 : Int32} (hj : j < 6) (hd : d < 8) (hll : l.length + rr.length = 12) : ∀ (q p : List Int32) (S : St) (h : mm_H), l = p ++ q → Ok S → RC S h → sD S = d + 1 → 201 ≤ n + sS S → (∀ x ∈ q, rN (sM S) x) → h.2.2 (10 + d) = some (5, (l ++ rr).map Value.int) → fr AC h0 h → (∀ e, e < d → h.2.2 (10 + e) = h0.2.2 (10 + e)) →
    mW none (F + 2) mX3_ringBell 65 [(8, .int (nI p.length)), (7, .int 0), (6, .int (nI l.length)), (5, .ref (10 + d)), (4, .ref (18 + 2 * j)), (0, .ref 1), (1, .int (nI j)), (2, .long v)] [] h (fun r h' => r = some (.int (m_well (m_loop (m_perf n) j v q S).1)) ∧ RC (uD (m_loop (m_perf n) j v q S).2 (sD (m_loop (m_perf n) j v q S).2 - 1)) h' ∧ fr AC h0 h' ∧ ∀ e, e < d → h'.2.2 (10 + e) = h0.2.2 (10 + e)) := by
  have fin : ∀ (e : Int32) (S : St) (h : mm_H) (k8 : Int32), sD S = d + 1 → RC S h → fr AC h0 h → (∀ e, e < d → h.2.2 (10 + e) = h0.2.2 (10 + e)) → mW none (F + 2) mX3_ringBell 121 [(8, .int k8), (7, .int e), (6, .int (nI l.length)), (5, .ref (10 + d)), (4, .ref (18 + 2 * j)), (0, .ref 1), (1, .int (nI j)), (2, .long v)] [] h (fun r h' => r = some (.int (m_well e)) ∧ RC (uD S (sD S - 1)) h' ∧ fr AC h0 h' ∧ ∀ e, e < d → h'.2.2 (10 + e) = h0.2.2 (10 + e)) := fun e S h k8 hd1 hR hf hro => by
    refine w_aload_n (q := 122) aX3_ringBell_121 rfl rfl ?_
    refine w_dup (q := 123) aX3_ringBell_122 rfl rfl ?_
    refine w_get (q := 126) aX3_ringBell_123 f_3_146 (hR.ho) rfl rfl ?_
    refine w_iconst (v := 1) (q := 127) aX3_ringBell_126 rfl rfl ?_
    refine w_isub (q := 128) aX3_ringBell_127 rfl ?_
    refine w_put (q := 131) (fs' := [_, _, _, _, _, _, _, _, _, _, _, _, _, _, _, _, _]) aX3_ringBell_128 f_3_146 (hR.ho) (Nat.le_of_ble_eq_true rfl) rfl rfl (Or.inl rfl) rfl rfl ?_
    refine w_iload (q := 133) aX3_ringBell_131 rfl rfl ?_
    refine w_callS aX3_ringBell_133 x_3_94 t_3_94 (rfl) (c_wellIfStopped) (fun r133 h133 hp => ?_)
    obtain ⟨rfl, rfl⟩ := hp
    refine w_iret aX3_ringBell_136 rfl ?_
    refine ⟨rfl, ?_, hf.up (Or.inl (by omega)), fun e he => (up_n (by omega)).trans (hro e he)⟩
    refine hR.upHo (S' := uD S (sD S - 1)) ?_ ⟨rfl, rfl, rfl, rfl, rfl, rfl, rfl, rfl⟩
    show [Value.ref 2, .ref 3, .ref 4, .ref 7, .ref 8, .int (nI (sM S)), .ref 9, .int (nI (sD S) - 1), .int (nI (sS S)), .int (sC S 1), .int (sC S 2), .int (sC S 3), .int (sC S 4), .int (sC S 5), .int (sC S 6), .int (sC S 8), .int (sC S 9)] = _
    rw [hd1, nI_pred]
    rfl
  intro q
  induction q with
  | nil =>
    intro p S h hl ho hR hsd hn hq hrow hf hro
    rw [List.append_nil] at hl
    refine w_iload (q := 67) aX3_ringBell_65 rfl rfl ?_
    refine w_iload (q := 69) aX3_ringBell_67 rfl rfl ?_
    refine w_ic_ge (t := 121) (q := 72) aX3_ringBell_69 (by decide) rfl (fun c69 => ?_) (fun c69 => ?_)
    · exact fin 0 S h _ hsd hR hf hro
    · exact absurd (by rw [hl]; exact nI_le (Nat.le_refl _) (by rw [hl] at hll; omega)) c69
  | cons x q ihq =>
    intro p S h hl ho hR hsd hn hq hrow hf hro
    have hpl : p.length < l.length := by rw [hl]; simp
    obtain ⟨i, hi, rfl⟩ := hx_in ho (hq x List.mem_cons_self)
    have hM := ho.1
    obtain ⟨g, hg⟩ := hR.bel hj
    have hbl := hg.2.2.1
    refine w_iload (q := 67) aX3_ringBell_65 rfl rfl ?_
    refine w_iload (q := 69) aX3_ringBell_67 rfl rfl ?_
    refine w_ic_ge (t := 121) (q := 72) aX3_ringBell_69 (by decide) rfl (fun c69 => ?_) (fun c69 => ?_)
    · exact absurd c69 (nI_ge hpl (by omega))
    · refine w_iload (q := 74) aX3_ringBell_72 rfl rfl ?_
      refine w_if_ne (t := 121) (q := 77) aX3_ringBell_74 (by decide) rfl (fun c74 => ?_) (fun c74 => ?_)
      · exact absurd rfl c74
      · refine w_aload (q := 79) aX3_ringBell_77 rfl rfl ?_
        refine w_iload (q := 81) aX3_ringBell_79 rfl rfl ?_
        refine w_iald (q := 82) aX3_ringBell_81 (by omega) (hrow) (mm_ix_at (v := .int (nI i)) rfl (by omega) (ints_at (by rw [hl]; simp))) rfl ?_
        refine w_istore (q := 84) (ls' := [(9, _), (8, _), (7, _), (6, _), (5, _), (4, _), (0, _), (1, _), (2, _)]) aX3_ringBell_82 (by decide) rfl rfl ?_
        refine w_aload (q := 86) aX3_ringBell_84 rfl rfl ?_
        refine w_iload (q := 88) aX3_ringBell_86 rfl rfl ?_
        refine w_callV aX3_ringBell_88 t_3_153 (this_at rfl hg.1) (rfl) (c_placeOf hg) (fun r88 h88 hp => ?_)
        obtain ⟨rfl, rfl⟩ := hp
        unfold m_loop
        refine w_iconst (v := -1) (q := 92) aX3_ringBell_91 rfl rfl ?_
        refine w_ic_eq (t := 115) (q := 95) aX3_ringBell_92 (by decide) rfl (fun c92 => ?_) (fun c92 => ?_)
        · rw [if_neg ((pls_m1 (by omega)).mp c92)]
          refine w_iinc (q := 118) (ls' := [(8, _), (9, _), (7, _), (6, _), (5, _), (4, _), (0, _), (1, _), (2, _)]) aX3_ringBell_115 rfl rfl (by decide) rfl rfl ?_
          refine w_goto (t := 65) aX3_ringBell_118 (by decide) ?_
          rw [show nI p.length + Int32.ofInt 1 = nI (p ++ [nI i]).length from by rw [List.length_append]; exact nI_1 _]
          refine mW.ls (ihq (p ++ [nI i]) S h (by rw [hl]; simp) ho hR hsd hn (fun y hy => hq y (List.mem_cons_of_mem _ hy)) hrow hf hro) ?_
          exact ((((((((Rl.nil.cons rfl).cons rfl).cons rfl).cons rfl).cons rfl).cons rfl).cons rfl).cons rfl)
        · have hin : nI i ∈ sL S j := Classical.byContradiction fun z => c92 (pls_no z)
          rw [if_pos hin, nI_clamp (by omega)]
          have hgo := PfOk.perf n S (sH S i) v ho (ho.2.1 i)
          refine w_aload_n (q := 96) aX3_ringBell_95 rfl rfl ?_
          refine w_aload (q := 98) aX3_ringBell_96 rfl rfl ?_
          refine w_aload_n (q := 99) aX3_ringBell_98 rfl rfl ?_
          refine w_aload_n (q := 100) aX3_ringBell_99 rfl rfl ?_
          refine w_get (q := 103) aX3_ringBell_100 f_3_32 (hR.ho) rfl rfl ?_
          refine w_iload (q := 105) aX3_ringBell_103 rfl rfl ?_
          refine w_aald (q := 106) aX3_ringBell_105 (hR.ha) (by decide) (mm_ix_at (n := i) rfl (by omega) (rg_at (by omega))) rfl ?_
          refine w_lload_n (q := 107) aX3_ringBell_106 rfl rfl ?_
          refine w_callV aX3_ringBell_107 t_3_90 (this_at rfl hR.ho) (call3 (by decide) (Nat.le_of_ble_eq_true rfl)) ((by rw [lvA3]; exact ih _ h S (sH S i) v (by omega) ho hR (ho.2.1 i) hn)) (fun r107 h107 hp => ?_)
          obtain ⟨rfl, hR1, hf1, hro1⟩ := hp
          generalize hq1 : m_perf n S (sH S i) v = q1 at *
          obtain ⟨e1, S1⟩ := q1
          have ho1 := hgo.1 ho
          have hsd1 : sD S1 = d + 1 := hgo.2.1.2.2.2.2.trans hsd
          have hrow1 : h107.2.2 (10 + d) = some (5, (l ++ rr).map Value.int) := (hro1 d (by omega)).trans hrow
          refine w_callV aX3_ringBell_110 t_3_156 (this_at rfl hR1.ho) (rfl) (c_metByBell hj hR1) (fun r110 h110 hp => ?_)
          obtain ⟨rfl, hR2, hf2⟩ := hp
          have hgb := Go.bell S1 j e1
          generalize hq2 : m_bell S1 j e1 = q2 at *
          obtain ⟨e2, S2⟩ := q2
          have ho2 := hgb.1 ho1
          have hsd2 : sD S2 = d + 1 := hgb.2.1.2.2.2.2.trans hsd1
          have hrow2 : h110.2.2 (10 + d) = some (5, (l ++ rr).map Value.int) := (hf2.2.2 _ (fun z => z.2 (by omega))).trans hrow1
          have hf3 : fr AC h0 h110 := (hf.tr hf1).tr (hf2.mono (fun _ z => z.1))
          have hro3 : ∀ e, e < d → h110.2.2 (10 + e) = h0.2.2 (10 + e) := fun e he => ((hf2.2.2 _ (fun z => z.2 (by omega))).trans (hro1 e (by omega))).trans (hro e he)
          refine w_istore (q := 115) (ls' := [(7, _), (9, _), (8, _), (6, _), (5, _), (4, _), (0, _), (1, _), (2, _)]) aX3_ringBell_113 (by decide) rfl rfl ?_
          refine w_iinc (q := 118) (ls' := [(8, _), (7, _), (9, _), (6, _), (5, _), (4, _), (0, _), (1, _), (2, _)]) aX3_ringBell_115 rfl rfl (by decide) rfl rfl ?_
          refine w_goto (t := 65) aX3_ringBell_118 (by decide) ?_
          rw [show nI p.length + Int32.ofInt 1 = nI (p ++ [nI i]).length from by rw [List.length_append]; exact nI_1 _]
          by_cases he2 : e2 = 0
          · rw [if_pos he2]
            have he2' : e2 = 0 := he2
            subst he2'
            refine mW.ls (ihq (p ++ [nI i]) S2 h110 (by rw [hl]; simp) ho2 hR2 hsd2 (by have h8 := hgo.2.2; have h9 := hgb.2.2; dsimp only at h8 h9; omega) (fun y hy => ?_) hrow2 hf3 hro3) ?_
            · have h8 := hgo.2.1.1
              have h9 := hgb.2.1.1
              dsimp only at h8 h9
              rw [h9, h8]
              exact hq y (List.mem_cons_of_mem _ hy)
            · exact ((((((((Rl.nil.cons rfl).cons rfl).cons rfl).cons rfl).cons rfl).cons rfl).cons rfl).cons rfl)
          · rw [if_neg he2]
            refine w_iload (q := 67) aX3_ringBell_65 rfl rfl ?_
            refine w_iload (q := 69) aX3_ringBell_67 rfl rfl ?_
            refine w_ic_ge (t := 121) (q := 72) aX3_ringBell_69 (by decide) rfl (fun c69 => ?_) (fun c69 => ?_)
            · exact mW.ls (fin e2 S2 h110 _ hsd2 hR2 hf3 hro3) ((((((((Rl.nil.cons rfl).cons rfl).cons rfl).cons rfl).cons rfl).cons rfl).cons rfl).cons rfl)
            · refine w_iload (q := 74) aX3_ringBell_72 rfl rfl ?_
              refine w_if_ne (t := 121) (q := 77) aX3_ringBell_74 (by decide) rfl (fun c74 => ?_) (fun c74 => ?_)
              · exact mW.ls (fin e2 S2 h110 _ hsd2 hR2 hf3 hro3) ((((((((Rl.nil.cons rfl).cons rfl).cons rfl).cons rfl).cons rfl).cons rfl).cons rfl).cons rfl)
              · exact absurd c74 he2
theorem c_ringBell {n : Nat} (ih : PerfOK n) {F : Nat} {h : mm_H} {S : St} {j : Nat} {v : Int64} (hF : 3 * n + 10 ≤ F) (ho : Ok S) (hR : RC S h) (hj : j < 6) (hn : 201 ≤ n + sS S) : mW none F mX3_ringBell 0 [(0, .ref 1), (1, .int (nI j)), (2, .long v)] [] h (fP (m_ring (m_perf n) S j v) S h) := by
  obtain ⟨G, rfl⟩ : ∃ G, F = G + 2 := ⟨F - 2, by omega⟩
  unfold m_ring
  obtain ⟨g, hg⟩ := hR.bel hj
  have hbl := hg.2.2.1
  have hsd := ho.2.2.2.2.2.1
  refine w_aload_n (q := 1) aX3_ringBell_0 rfl rfl ?_
  refine w_get (q := 4) aX3_ringBell_1 f_3_146 (hR.ho) rfl rfl ?_
  refine w_bipush (v := 8) (q := 6) aX3_ringBell_4 rfl rfl ?_
  refine w_ic_lt (t := 11) (q := 9) aX3_ringBell_6 (by decide) rfl (fun c6 => ?_) (fun c6 => ?_)
  · have hd : sD S < 8 := (nI_ltI (b := 8) (by omega) (by omega)).mp c6
    rw [if_neg (by omega)]
    obtain ⟨rr, hrl, hrr⟩ := hR.rw hd
    refine w_aload_n (q := 12) aX3_ringBell_11 rfl rfl ?_
    refine w_get (q := 15) aX3_ringBell_12 f_3_15 (hR.ho) rfl rfl ?_
    refine w_iload_n (q := 16) aX3_ringBell_15 rfl rfl ?_
    refine w_aald (q := 17) aX3_ringBell_16 (hR.be) (by decide) (mm_ix_at (n := j) rfl (by omega) (rg_at hj)) rfl ?_
    refine w_astore (q := 19) (ls' := [(4, _), (0, _), (1, _), (2, _)]) aX3_ringBell_17 (by decide) rfl rfl ?_
    refine w_aload_n (q := 20) aX3_ringBell_19 rfl rfl ?_
    refine w_get (q := 23) aX3_ringBell_20 f_3_37 (hR.ho) rfl rfl ?_
    refine w_aload_n (q := 24) aX3_ringBell_23 rfl rfl ?_
    refine w_get (q := 27) aX3_ringBell_24 f_3_146 (hR.ho) rfl rfl ?_
    refine w_aald (q := 28) aX3_ringBell_27 (hR.ro) (by decide) (mm_ix_at (n := sD S) rfl (by omega) (rg_at hd)) rfl ?_
    refine w_astore (q := 30) (ls' := [(5, _), (4, _), (0, _), (1, _), (2, _)]) aX3_ringBell_28 (by decide) rfl rfl ?_
    refine w_aload (q := 32) aX3_ringBell_30 rfl rfl ?_
    refine w_aload (q := 34) aX3_ringBell_32 rfl rfl ?_
    refine w_callV aX3_ringBell_34 t_3_149 (this_at rfl hg.1) (rfl) (c_copyLine hg (by omega) (by omega) hrl hrr) (fun r34 h34 hp => ?_)
    obtain ⟨rfl, ⟨rr', hl', hrow⟩, hf⟩ := hp
    have hR1 := hR.upRo hd hf ⟨sL S j ++ rr', by rw [List.length_append]; exact hl', hrow⟩
    have hfA : fr AC h h34 := hf.mono (fun q hq => by have hq' : q = 10 + sD S := hq; exact Or.inl (by omega))
    refine w_istore (q := 39) (ls' := [(6, _), (5, _), (4, _), (0, _), (1, _), (2, _)]) aX3_ringBell_37 (by decide) rfl rfl ?_
    refine w_aload_n (q := 40) aX3_ringBell_39 rfl rfl ?_
    refine w_dup (q := 41) aX3_ringBell_40 rfl rfl ?_
    refine w_get (q := 44) aX3_ringBell_41 f_3_146 (hR1.ho) rfl rfl ?_
    refine w_iconst (v := 1) (q := 45) aX3_ringBell_44 rfl rfl ?_
    refine w_iadd (q := 46) aX3_ringBell_45 rfl ?_
    refine w_put (q := 49) (fs' := [_, _, _, _, _, _, _, _, _, _, _, _, _, _, _, _, _]) aX3_ringBell_46 f_3_146 (hR1.ho) (Nat.le_of_ble_eq_true rfl) rfl rfl (Or.inl rfl) rfl rfl ?_
    refine w_aload_n (q := 50) aX3_ringBell_49 rfl rfl ?_
    refine w_dup (q := 51) aX3_ringBell_50 rfl rfl ?_
    refine w_get (q := 54) aX3_ringBell_51 f_3_106 (up_s _ _ _) rfl rfl ?_
    refine w_iconst (v := 1) (q := 55) aX3_ringBell_54 rfl rfl ?_
    refine w_iadd (q := 56) aX3_ringBell_55 rfl ?_
    refine w_put (q := 59) (fs' := [_, _, _, _, _, _, _, _, _, _, _, _, _, _, _, _, _]) aX3_ringBell_56 f_3_106 (up_s _ _ _) (Nat.le_of_ble_eq_true rfl) rfl rfl (Or.inl rfl) rfl rfl ?_
    refine w_iconst (v := 0) (q := 60) aX3_ringBell_59 rfl rfl ?_
    refine w_istore (q := 62) (ls' := [(7, _), (6, _), (5, _), (4, _), (0, _), (1, _), (2, _)]) aX3_ringBell_60 (by decide) rfl rfl ?_
    refine w_iconst (v := 0) (q := 63) aX3_ringBell_62 rfl rfl ?_
    refine w_istore (q := 65) (ls' := [(8, _), (7, _), (6, _), (5, _), (4, _), (0, _), (1, _), (2, _)]) aX3_ringBell_63 (by decide) rfl rfl ?_
    have eh : ∀ S1 : St, hoL (uD S1 (sD S1 + 1)) = [Value.ref 2, .ref 3, .ref 4, .ref 7, .ref 8, .int (nI (sM S1)), .ref 9, .int (nI (sD S1) + 1), .int (nI (sS S1)), .int (sC S1 1), .int (sC S1 2), .int (sC S1 3), .int (sC S1 4), .int (sC S1 5), .int (sC S1 6), .int (sC S1 8), .int (sC S1 9)] := fun S1 => by rw [nI_1]; rfl
    have r1 := hR1.upHo (S' := uD S (sD S + 1)) (eh S).symm ⟨rfl, rfl, rfl, rfl, rfl, rfl, rfl, rfl⟩
    have r2 := r1.upHo (S' := uC (uD S (sD S + 1)) (inc (sC S) 2)) (by rw [show hoL (uC (uD S (sD S + 1)) (inc (sC S) 2)) = [Value.ref 2, .ref 3, .ref 4, .ref 7, .ref 8, .int (nI (sM S)), .ref 9, .int (nI (sD S + 1)), .int (nI (sS S)), .int (sC S 1), .int (sC S 2 + 1), .int (sC S 3), .int (sC S 4), .int (sC S 5), .int (sC S 6), .int (sC S 8), .int (sC S 9)] from rfl, ← nI_1]) ⟨rfl, rfl, rfl, rfl, rfl, rfl, rfl, rfl⟩
    have o1 : Ok (uC (uD S (sD S + 1)) (inc (sC S) 2)) := ⟨ho.1, ho.2.1, ho.2.2.1, ho.2.2.2.1, ho.2.2.2.2.1, by show sD S + 1 ≤ 8; omega, ho.2.2.2.2.2.2⟩
    exact l_ringBell ih (F := G) (by omega) (S0 := S) (h0 := h) (d := sD S) (rr := rr') (e0 := 0) hj hd hl' (sL S j) [] _ _ rfl o1 r2 rfl hn (ho.2.2.2.1 j hj) ((up_n (by omega)).trans ((up_n (by omega)).trans hrow)) ((hfA.up (Or.inl (by omega))).up (Or.inl (by omega))) (fun e he => (up_n (by omega)).trans ((up_n (by omega)).trans (hf.2.2 _ (by omega))))
  · have hd : 8 ≤ sD S := Nat.le_of_not_lt (fun z => c6 (nI_lt (b := 8) z (by omega)))
    rw [if_pos hd]
    refine w_iconst (v := 5) (q := 10) aX3_ringBell_9 rfl rfl ?_
    refine w_iret aX3_ringBell_10 rfl ?_
    exact ⟨rfl, hR, fr.rf, fun _ _ => rfl⟩
end
section
theorem fP.pre {q : Int32 × St} {S S1 : St} {h h1 h' : mm_H} {r : Option Value} (hsd : sD S1 = sD S) (hf : fr AC h h1) (hro : ∀ e, e < 8 → h1.2.2 (10 + e) = h.2.2 (10 + e)) (h8 : sD S ≤ 8) (hp : fP q S1 h1 r h') : fP q S h r h' := ⟨hp.1, hp.2.1, hf.tr hp.2.2.1, fun e he => (hp.2.2.2 e (by omega)).trans (hro e (by omega))⟩
theorem c_perform : ∀ n, PerfOK n := by
  intro n
  induction n with
  | zero =>
    intro F h S o v hF ho hR hk hn
    have := ho.2.2.2.2.2.2
    omega
  | succ n ih =>
    intro F h S o v hF ho hR hk hn
    obtain ⟨G, rfl⟩ : ∃ G, F = G + 6 := ⟨F - 6, by omega⟩
    cases o with
    | none =>
      show mW none (G + 6) mX3_perform 0 [(0, .ref 1), (1, va_rf none), (2, .long v)] [] h (fP (3, S) S h)
      refine w_aload_nQ (v := none) (q := 1) aX3_perform_0 rfl rfl ?_
      refine w_nonnull (t := 6) (q := 4) aX3_perform_1 (by decide) rfl (fun v1 c1 => ?_) (fun c1 => ?_)
      · cases c1
      · refine w_iconst (v := 3) (q := 5) aX3_perform_4 rfl rfl ?_
        refine w_iret aX3_perform_5 rfl ?_
        exact ⟨rfl, hR, fr.rf, fun _ _ => rfl⟩
    | some k =>
      have hkm := hk k rfl
      have hA := ho.2.2.1 k hkm
      have hss := ho.2.2.2.2.2.2
      have hsd := ho.2.2.2.2.2.1
      obtain ⟨j, hj, ej⟩ := rN_sort hA
      have hcan := hA.1
      rw [ej] at hcan
      have hak := aa_or k
      show mW none (G + 6) mX3_perform 0 [(0, .ref 1), (1, va_rf (some (aa k))), (2, .long v)] [] h (fP (if 200 ≤ sS S then (6, S) else m_pf (m_perf n) (sA S k).1.toNatClampNeg (m_begin S k) k (sA S k) v) S h)
      refine w_aload_nQ (v := some (aa k)) (q := 1) aX3_perform_0 rfl rfl ?_
      refine w_nonnull (t := 6) (q := 4) aX3_perform_1 (by decide) rfl (fun v1 c1 => ?_) (fun c1 => ?_)
      · show mW none (G + 6) mX3_perform 6 [(0, .ref 1), (1, .ref (aa k)), (2, .long v)] [] h _
        refine w_aload_n (q := 7) aX3_perform_6 rfl rfl ?_
        refine w_get (q := 10) aX3_perform_7 f_3_77 (hR.ho) rfl rfl ?_
        refine w_sipush (v := 200) (q := 13) aX3_perform_10 rfl rfl ?_
        refine w_ic_lt (t := 19) (q := 16) aX3_perform_13 (by decide) rfl (fun c13 => ?_) (fun c13 => ?_)
        · have hs2 : sS S < 200 := (nI_ltI (b := 200) (by omega) (by omega)).mp c13
          rw [if_neg (by omega), ej, nI_clamp (by omega)]
          refine w_aload_n (q := 20) aX3_perform_19 rfl rfl ?_
          refine w_dup (q := 21) aX3_perform_20 rfl rfl ?_
          refine w_get (q := 24) aX3_perform_21 f_3_77 (hR.ho) rfl rfl ?_
          refine w_iconst (v := 1) (q := 25) aX3_perform_24 rfl rfl ?_
          refine w_iadd (q := 26) aX3_perform_25 rfl ?_
          refine w_put (q := 29) (fs' := [_, _, _, _, _, _, _, _, _, _, _, _, _, _, _, _, _]) aX3_perform_26 f_3_77 (hR.ho) (Nat.le_of_ble_eq_true rfl) rfl rfl (Or.inl rfl) rfl rfl ?_
          have r1 := hR.upHo (S' := uS S (sS S + 1)) (c := [.ref 2, .ref 3, .ref 4, .ref 7, .ref 8, .int (nI (sM S)), .ref 9, .int (nI (sD S)), .int (nI (sS S) + 1), .int (sC S 1), .int (sC S 2), .int (sC S 3), .int (sC S 4), .int (sC S 5), .int (sC S 6), .int (sC S 8), .int (sC S 9)]) (by rw [nI_1]; rfl) ⟨rfl, rfl, rfl, rfl, rfl, rfl, rfl, rfl⟩
          refine w_aload_n (q := 30) aX3_perform_29 rfl rfl ?_
          refine w_dup (q := 31) aX3_perform_30 rfl rfl ?_
          refine w_get (q := 34) aX3_perform_31 f_3_103 (r1.ho) rfl rfl ?_
          refine w_iconst (v := 1) (q := 35) aX3_perform_34 rfl rfl ?_
          refine w_iadd (q := 36) aX3_perform_35 rfl ?_
          refine w_put (q := 39) (fs' := [_, _, _, _, _, _, _, _, _, _, _, _, _, _, _, _, _]) aX3_perform_36 f_3_103 (r1.ho) (Nat.le_of_ble_eq_true rfl) rfl rfl (Or.inl rfl) rfl rfl ?_
          have r2 := r1.upHo (S' := uC (uS S (sS S + 1)) (inc (sC S) 1)) rfl ⟨rfl, rfl, rfl, rfl, rfl, rfl, rfl, rfl⟩
          refine w_aload_n (q := 40) aX3_perform_39 rfl rfl ?_
          refine w_dup (q := 41) aX3_perform_40 rfl rfl ?_
          refine w_get (q := 44) aX3_perform_41 f_3_127 (r2.ac hkm) rfl rfl ?_
          refine w_iconst (v := 1) (q := 45) aX3_perform_44 rfl rfl ?_
          refine w_iadd (q := 46) aX3_perform_45 rfl ?_
          refine w_put (q := 49) (fs' := [_, _, _, _, _, _, _]) aX3_perform_46 f_3_127 (r2.ac hkm) (Nat.le_of_ble_eq_true rfl) rfl rfl (Or.inl rfl) rfl rfl ?_
          have r3 := r2.upAc (k := k) (n := sB S k + 1) (c := [.int (sA S k).1, .int (sA S k).2.1, .int (sA S k).2.2.1, .long (sA S k).2.2.2.1, va_rf ((sA S k).2.2.2.2.1.map aa), va_rf ((sA S k).2.2.2.2.2.map aa), .int (nI (sB S k) + 1)]) hkm (by rw [nI_1]; rfl)
          have hfr : fr AC h (mm_up (mm_up (mm_up h 1 (3, [.ref 2, .ref 3, .ref 4, .ref 7, .ref 8, .int (nI (sM S)), .ref 9, .int (nI (sD S)), .int (nI (sS S) + 1), .int (sC S 1), .int (sC S 2), .int (sC S 3), .int (sC S 4), .int (sC S 5), .int (sC S 6), .int (sC S 8), .int (sC S 9)])) 1 (3, hoL (uC (uS S (sS S + 1)) (inc (sC S) 1)))) (aa k) (0, [.int (sA S k).1, .int (sA S k).2.1, .int (sA S k).2.2.1, .long (sA S k).2.2.2.1, va_rf ((sA S k).2.2.2.2.1.map aa), va_rf ((sA S k).2.2.2.2.2.map aa), .int (nI (sB S k) + 1)])) := ((fr.rf.up (Or.inl (by omega))).up (Or.inl (by omega))).up (AC_aa k)
          have hro : ∀ e, e < 8 → (mm_up (mm_up (mm_up h 1 (3, [.ref 2, .ref 3, .ref 4, .ref 7, .ref 8, .int (nI (sM S)), .ref 9, .int (nI (sD S)), .int (nI (sS S) + 1), .int (sC S 1), .int (sC S 2), .int (sC S 3), .int (sC S 4), .int (sC S 5), .int (sC S 6), .int (sC S 8), .int (sC S 9)])) 1 (3, hoL (uC (uS S (sS S + 1)) (inc (sC S) 1)))) (aa k) (0, [.int (sA S k).1, .int (sA S k).2.1, .int (sA S k).2.2.1, .long (sA S k).2.2.2.1, va_rf ((sA S k).2.2.2.2.1.map aa), va_rf ((sA S k).2.2.2.2.2.map aa), .int (nI (sB S k) + 1)])).2.2 (10 + e) = h.2.2 (10 + e) := fun e he => (up_n (by omega)).trans ((up_n (by omega)).trans (up_n (by omega)))
          show mW none (G + 6) mX3_perform 49 _ [] (mm_up (mm_up (mm_up h 1 (3, [.ref 2, .ref 3, .ref 4, .ref 7, .ref 8, .int (nI (sM S)), .ref 9, .int (nI (sD S)), .int (nI (sS S) + 1), .int (sC S 1), .int (sC S 2), .int (sC S 3), .int (sC S 4), .int (sC S 5), .int (sC S 6), .int (sC S 8), .int (sC S 9)])) 1 (3, hoL (uC (uS S (sS S + 1)) (inc (sC S) 1)))) (aa k) (0, [.int (sA S k).1, .int (sA S k).2.1, .int (sA S k).2.2.1, .long (sA S k).2.2.2.1, va_rf ((sA S k).2.2.2.2.1.map aa), va_rf ((sA S k).2.2.2.2.2.map aa), .int (nI (sB S k) + 1)])) _
          replace r3 : RC (m_begin S k) _ := r3
          generalize (mm_up (mm_up (mm_up h 1 (3, [.ref 2, .ref 3, .ref 4, .ref 7, .ref 8, .int (nI (sM S)), .ref 9, .int (nI (sD S)), .int (nI (sS S) + 1), .int (sC S 1), .int (sC S 2), .int (sC S 3), .int (sC S 4), .int (sC S 5), .int (sC S 6), .int (sC S 8), .int (sC S 9)])) 1 (3, hoL (uC (uS S (sS S + 1)) (inc (sC S) 1)))) (aa k) (0, [.int (sA S k).1, .int (sA S k).2.1, .int (sA S k).2.2.1, .long (sA S k).2.2.2.1, va_rf ((sA S k).2.2.2.2.1.map aa), va_rf ((sA S k).2.2.2.2.2.map aa), .int (nI (sB S k) + 1)])) = h1 at r3 hfr hro ⊢
          clear r1 r2
          have g0 : Go S (m_begin S k) := Go.begin (by omega)
          have o0 := g0.1 ho
          have hn0 : 201 ≤ n + sS (m_begin S k) := by show 201 ≤ n + (sS S + 1); omega
          have hkm0 : k < sM (m_begin S k) := hkm
          have hB : sB (m_begin S k) k = sB S k + 1 := fu_s
          have eA : sA (m_begin S k) k = sA S k := rfl
          generalize hS1 : m_begin S k = S1 at *
          have hac := r3.ac hkm0
          rw [eA] at hac
          have K : ∀ {q r h'}, fP q S1 h1 r h' → fP q S h r h' := fun hp => fP.pre g0.2.1.2.2.2.2 hfr hro hsd hp
          have dflt : m_pf (m_perf n) j S1 k (sA S k) v = m_al j S1 (sA S k) v → (¬ j = 5 ∧ ¬ (8 ≤ j ∧ j ≤ 12)) → mW none (G + 6) mX3_perform 245 [(0, .ref 1), (1, .ref (aa k)), (2, .long v)] [] h1 (fP (m_pf (m_perf n) j S1 k (sA S k) v) S h) := fun e hne => by
            rw [e]
            refine w_aload_n (q := 246) aX3_perform_245 rfl rfl ?_
            refine w_aload_n (q := 247) aX3_perform_246 rfl rfl ?_
            refine w_lload_n (q := 248) aX3_perform_247 rfl rfl ?_
            refine w_callV aX3_perform_248 t_3_186 (this_at rfl r3.ho) (rfl) (c_alone o0 hkm0 r3 (eA ▸ ej) hj hne) (fun r248 h248 hp => ?_)
            rw [eA] at hp
            have hp2 := K (fP.of o0 hp)
            obtain ⟨rfl, -, -⟩ := hp
            refine w_iret aX3_perform_251 rfl ?_
            exact hp2
          refine w_aload_n (q := 50) aX3_perform_49 rfl rfl ?_
          refine w_get (q := 53) aX3_perform_50 f_3_160 (hac) rfl rfl ?_
          rw [ej]
          have hcs : j = 5 ∨ j = 8 ∨ j = 9 ∨ j = 10 ∨ j = 11 ∨ j = 12 ∨ j = 6 ∨ j = 7 ∨ j = 0 ∨ j = 1 ∨ j = 2 ∨ j = 3 ∨ j = 4 ∨ j = 13 ∨ j = 14 := by omega
          rcases hcs with rfl | rfl | rfl | rfl | rfl | rfl | rfl | rfl | rfl | rfl | rfl | rfl | rfl | rfl | rfl
          · obtain ⟨i, hi, ei⟩ := rN_of (by omega) (can_5.mpr hcan)
            rw [m_pf_5]
            refine w_table (t := 100) (o := 47) aX3_perform_53 (by skip; decide) (by skip; decide) (by skip; rfl) (by decide) ?_
            refine w_aload_n (q := 101) aX3_perform_100 rfl rfl ?_
            refine w_aload_n (q := 102) aX3_perform_101 rfl rfl ?_
            refine w_get (q := 105) aX3_perform_102 f_3_163 (hac) rfl rfl ?_
            refine w_lload_n (q := 106) aX3_perform_105 rfl rfl ?_
            refine w_aload_n (q := 107) aX3_perform_106 rfl rfl ?_
            refine w_get (q := 110) aX3_perform_107 f_3_166 (hac) rfl rfl ?_
            refine w_i2l (q := 111) aX3_perform_110 rfl ?_
            refine w_ladd (q := 112) aX3_perform_111 rfl ?_
            rw [ei, nI_clamp (by omega)]
            refine w_callV aX3_perform_112 t_3_80 (this_at rfl r3.ho) (rfl) (c_ringBell ih (by omega) o0 r3 hi hn0) (fun r112 h112 hp => ?_)
            have hp2 := K hp
            obtain ⟨rfl, -, -⟩ := hp
            refine w_iret aX3_perform_115 rfl ?_
            exact hp2
          · rw [m_pf_8, hB]
            refine w_table (t := 116) (o := 63) aX3_perform_53 (by skip; decide) (by skip; decide) (by skip; rfl) (by decide) ?_
            refine w_aload_n (q := 117) aX3_perform_116 rfl rfl ?_
            refine w_get (q := 120) aX3_perform_117 f_3_127 (hac) rfl rfl ?_
            refine w_aload_n (q := 121) aX3_perform_120 rfl rfl ?_
            refine w_get (q := 124) aX3_perform_121 f_3_166 (hac) rfl rfl ?_
            rw [hB]
            refine w_ic_gt (t := 139) (q := 127) aX3_perform_124 (by decide) rfl (fun c124 => ?_) (fun c124 => ?_)
            · rw [if_neg (fun z => k2_nlt z c124)]
              refine w_iconst (v := 0) (q := 140) aX3_perform_139 rfl rfl ?_
              refine w_iret aX3_perform_140 rfl ?_
              exact K ⟨rfl, r3, fr.rf, fun _ _ => rfl⟩
            · rw [if_pos (k2_le c124)]
              refine w_aload_n (q := 128) aX3_perform_127 rfl rfl ?_
              refine w_aload_n (q := 129) aX3_perform_128 rfl rfl ?_
              refine w_get (q := 132) aX3_perform_129 f_3_169 (hac) rfl rfl ?_
              refine w_lload_n (q := 133) aX3_perform_132 rfl rfl ?_
              refine w_callV aX3_perform_133 t_3_90 (this_at rfl r3.ho) (call3 (by decide) (Nat.le_of_ble_eq_true rfl)) ((by rw [lvA3]; exact ih _ h1 S1 (sA S k).2.2.2.2.1 v (by omega) o0 r3 (fun q hq => g0.2.1.1 ▸ hA.2.1 q hq) hn0)) (fun r133 h133 hp => ?_)
              have hp2 := K hp
              obtain ⟨rfl, -, -⟩ := hp
              refine w_goto (t := 140) aX3_perform_136 (by decide) ?_
              refine w_iret aX3_perform_140 rfl ?_
              exact hp2
          · rw [m_pf_9, hB]
            refine w_table (t := 141) (o := 88) aX3_perform_53 (by skip; decide) (by skip; decide) (by skip; rfl) (by decide) ?_
            refine w_aload_n (q := 142) aX3_perform_141 rfl rfl ?_
            refine w_get (q := 145) aX3_perform_142 f_3_127 (hac) rfl rfl ?_
            refine w_aload_n (q := 146) aX3_perform_145 rfl rfl ?_
            refine w_get (q := 149) aX3_perform_146 f_3_166 (hac) rfl rfl ?_
            rw [hB]
            refine w_iconst (v := 1) (q := 150) aX3_perform_149 rfl rfl ?_
            refine w_maxI (q := 153) aX3_perform_150 x_3_173 (Nat.le_of_ble_eq_true rfl) rfl ?_
            have hne : ¬ (if (sA S k).2.2.1 < 1 then (1 : Int32) else (sA S k).2.2.1) = 0 := by
              split
              · decide
              · rename_i hb
                intro e
                rw [e] at hb
                exact hb (by decide)
            refine w_irem (q := 154) aX3_perform_153 (hne) rfl ?_
            refine w_if_ne (t := 169) (q := 157) aX3_perform_154 (by decide) rfl (fun c154 => ?_) (fun c154 => ?_)
            · rw [if_neg c154]
              refine w_iconst (v := 0) (q := 170) aX3_perform_169 rfl rfl ?_
              refine w_iret aX3_perform_170 rfl ?_
              exact K ⟨rfl, r3, fr.rf, fun _ _ => rfl⟩
            · rw [if_pos c154]
              refine w_aload_n (q := 158) aX3_perform_157 rfl rfl ?_
              refine w_aload_n (q := 159) aX3_perform_158 rfl rfl ?_
              refine w_get (q := 162) aX3_perform_159 f_3_169 (hac) rfl rfl ?_
              refine w_lload_n (q := 163) aX3_perform_162 rfl rfl ?_
              refine w_callV aX3_perform_163 t_3_90 (this_at rfl r3.ho) (call3 (by decide) (Nat.le_of_ble_eq_true rfl)) ((by rw [lvA3]; exact ih _ h1 S1 (sA S k).2.2.2.2.1 v (by omega) o0 r3 (fun q hq => g0.2.1.1 ▸ hA.2.1 q hq) hn0)) (fun r163 h163 hp => ?_)
              have hp2 := K hp
              obtain ⟨rfl, -, -⟩ := hp
              refine w_goto (t := 170) aX3_perform_166 (by decide) ?_
              refine w_iret aX3_perform_170 rfl ?_
              exact hp2
          · obtain ⟨i, hi, ei⟩ := rN_of (by omega) (can_10.mpr hcan).2
            rw [m_pf_10]
            refine w_table (t := 171) (o := 118) aX3_perform_53 (by skip; decide) (by skip; decide) (by skip; rfl) (by decide) ?_
            refine w_aload_n (q := 172) aX3_perform_171 rfl rfl ?_
            refine w_get (q := 175) aX3_perform_172 f_3_9 (r3.ho) rfl rfl ?_
            refine w_aload_n (q := 176) aX3_perform_175 rfl rfl ?_
            refine w_get (q := 179) aX3_perform_176 f_3_166 (hac) rfl rfl ?_
            rw [ei, nI_clamp (by omega)]
            refine w_lald (q := 180) aX3_perform_179 (r3.ta) (mm_ix_at (n := i) rfl (by omega) (rg_at hi)) rfl ?_
            refine w_lconst (v := 0) (q := 181) aX3_perform_180 rfl rfl ?_
            refine w_lcmp (q := 182) aX3_perform_181 rfl ?_
            refine w_if_le (t := 197) (q := 185) aX3_perform_182 (by decide) rfl (fun c182 => ?_) (fun c182 => ?_)
            · rw [if_neg (Int64.not_lt.mpr ((lg_cmp_le _ _).mp c182))]
              refine w_iconst (v := 0) (q := 198) aX3_perform_197 rfl rfl ?_
              refine w_iret aX3_perform_198 rfl ?_
              exact K ⟨rfl, r3, fr.rf, fun _ _ => rfl⟩
            · rw [if_pos (Int64.not_le.mp (fun z => c182 ((lg_cmp_le _ _).mpr z)))]
              refine w_aload_n (q := 186) aX3_perform_185 rfl rfl ?_
              refine w_aload_n (q := 187) aX3_perform_186 rfl rfl ?_
              refine w_get (q := 190) aX3_perform_187 f_3_169 (hac) rfl rfl ?_
              refine w_lload_n (q := 191) aX3_perform_190 rfl rfl ?_
              refine w_callV aX3_perform_191 t_3_90 (this_at rfl r3.ho) (call3 (by decide) (Nat.le_of_ble_eq_true rfl)) ((by rw [lvA3]; exact ih _ h1 S1 (sA S k).2.2.2.2.1 v (by omega) o0 r3 (fun q hq => g0.2.1.1 ▸ hA.2.1 q hq) hn0)) (fun r191 h191 hp => ?_)
              have hp2 := K hp
              obtain ⟨rfl, -, -⟩ := hp
              refine w_goto (t := 198) aX3_perform_194 (by decide) ?_
              refine w_iret aX3_perform_198 rfl ?_
              exact hp2
          · rw [m_pf_11]
            have hgo := PfOk.perf n S1 (sA S k).2.2.2.2.1 v o0 (fun q hq => g0.2.1.1 ▸ hA.2.1 q hq)
            refine w_table (t := 199) (o := 146) aX3_perform_53 (by skip; decide) (by skip; decide) (by skip; rfl) (by decide) ?_
            refine w_aload_n (q := 200) aX3_perform_199 rfl rfl ?_
            refine w_aload_n (q := 201) aX3_perform_200 rfl rfl ?_
            refine w_get (q := 204) aX3_perform_201 f_3_169 (hac) rfl rfl ?_
            refine w_lload_n (q := 205) aX3_perform_204 rfl rfl ?_
            refine w_callV aX3_perform_205 t_3_90 (this_at rfl r3.ho) (call3 (by decide) (Nat.le_of_ble_eq_true rfl)) ((by rw [lvA3]; exact ih _ h1 S1 (sA S k).2.2.2.2.1 v (by omega) o0 r3 (fun q hq => g0.2.1.1 ▸ hA.2.1 q hq) hn0)) (fun r205 h205 hp => ?_)
            have hp2 := K hp
            obtain ⟨rfl, hR2, hf2, hro2⟩ := hp
            generalize hq1 : m_perf n S1 (sA S k).2.2.2.2.1 v = q1 at *
            obtain ⟨e1, S2⟩ := q1
            have o2 := hgo.1 o0
            have hkm2 : k < sM S2 := by have := hgo.2.1.1; dsimp only at this; omega
            have hac2 := hR2.ac hkm2
            have eA2 : sA S2 = sA S1 := hgo.2.1.2.1
            dsimp only at hac2
            rw [eA2, eA] at hac2
            refine w_istore (q := 210) (ls' := [(4, _), (0, _), (1, _), (2, _)]) aX3_perform_208 (by decide) rfl rfl ?_
            refine w_iload (q := 212) aX3_perform_210 rfl rfl ?_
            refine w_if_ne (t := 227) (q := 215) aX3_perform_212 (by decide) rfl (fun c212 => ?_) (fun c212 => ?_)
            · rw [if_neg c212]
              refine w_iload (q := 229) aX3_perform_227 rfl rfl ?_
              refine w_iret aX3_perform_229 rfl ?_
              exact hp2
            · rw [if_pos c212]
              have c212' : e1 = 0 := c212
              refine w_aload_n (q := 216) aX3_perform_215 rfl rfl ?_
              refine w_aload_n (q := 217) aX3_perform_216 rfl rfl ?_
              refine w_get (q := 220) aX3_perform_217 f_3_179 (hac2) rfl rfl ?_
              refine w_lload_n (q := 221) aX3_perform_220 rfl rfl ?_
              refine w_callV aX3_perform_221 t_3_90 (this_at rfl hR2.ho) (call3 (by decide) (Nat.le_of_ble_eq_true rfl)) ((by rw [lvA3]; exact ih _ h205 S2 (sA S k).2.2.2.2.2 v (by omega) o2 hR2 (fun q hq => by have := hgo.2.1.1; have h5 := hA.2.2 q hq; have h6 := g0.2.1.1; dsimp only at this; omega) (by have := hgo.2.2; dsimp only at this; omega))) (fun r221 h221 hp => ?_)
              obtain ⟨rfl, hR3, hf3, hro3⟩ := hp
              refine w_goto (t := 229) aX3_perform_224 (by decide) ?_
              refine w_iret aX3_perform_229 rfl ?_
              exact ⟨rfl, hR3, hp2.2.2.1.tr hf3, fun e he => (hro3 e (by have h5 := hgo.2.1.2.2.2.2; have h6 := g0.2.1.2.2.2.2; dsimp only at h5; omega)).trans (hp2.2.2.2 e he)⟩
          · obtain ⟨i, hi, ei⟩ := rN_of (by omega) (can_12.mpr hcan).2
            rw [m_pf_12, ei, nI_clamp (by omega)]
            have hgo := PfOk.perf n S1 (sA S k).2.2.2.2.1 v o0 (fun q hq => g0.2.1.1 ▸ hA.2.1 q hq)
            refine w_table (t := 230) (o := 177) aX3_perform_53 (by skip; decide) (by skip; decide) (by skip; rfl) (by decide) ?_
            refine w_aload_n (q := 231) aX3_perform_230 rfl rfl ?_
            refine w_aload_n (q := 232) aX3_perform_231 rfl rfl ?_
            refine w_aload_n (q := 233) aX3_perform_232 rfl rfl ?_
            refine w_aload_n (q := 234) aX3_perform_233 rfl rfl ?_
            refine w_get (q := 237) aX3_perform_234 f_3_169 (hac) rfl rfl ?_
            refine w_lload_n (q := 238) aX3_perform_237 rfl rfl ?_
            refine w_callV aX3_perform_238 t_3_90 (this_at rfl r3.ho) (call3 (by decide) (Nat.le_of_ble_eq_true rfl)) ((by rw [lvA3]; exact ih _ h1 S1 (sA S k).2.2.2.2.1 v (by omega) o0 r3 (fun q hq => g0.2.1.1 ▸ hA.2.1 q hq) hn0)) (fun r238 h238 hp => ?_)
            have hp2 := K hp
            obtain ⟨rfl, hR2, hf2, hro2⟩ := hp
            generalize hq1 : m_perf n S1 (sA S k).2.2.2.2.1 v = q1 at *
            obtain ⟨e1, S2⟩ := q1
            have hkm2 : k < sM S2 := by have := hgo.2.1.1; dsimp only at this; omega
            have eA2 : sA S2 = sA S1 := hgo.2.1.2.1
            refine w_callV aX3_perform_241 t_3_182 (this_at rfl hR2.ho) (rfl) (c_metByTry hkm2 hi (by rw [eA2, eA]; exact ei) hR2) (fun r241 h241 hp => ?_)
            obtain ⟨rfl, hR3, hf3⟩ := hp
            refine w_iret aX3_perform_244 rfl ?_
            exact ⟨rfl, hR3, hp2.2.2.1.tr (hf3.mono (fun _ z => z.1)), fun e he => (hf3.2.2 _ (fun z => z.2 (by omega))).trans (hp2.2.2.2 e he)⟩
          · refine w_table (t := 245) (o := 192) aX3_perform_53 (by skip; decide) (by skip; decide) (by skip; rfl) (by decide) ?_
            exact dflt rfl (by omega)
          · refine w_table (t := 245) (o := 192) aX3_perform_53 (by skip; decide) (by skip; decide) (by skip; rfl) (by decide) ?_
            exact dflt rfl (by omega)
          · refine w_tableD (t := 245) aX3_perform_53 (Or.inl (by decide)) (by decide) ?_
            exact dflt rfl (by omega)
          · refine w_tableD (t := 245) aX3_perform_53 (Or.inl (by decide)) (by decide) ?_
            exact dflt rfl (by omega)
          · refine w_tableD (t := 245) aX3_perform_53 (Or.inl (by decide)) (by decide) ?_
            exact dflt rfl (by omega)
          · refine w_tableD (t := 245) aX3_perform_53 (Or.inl (by decide)) (by decide) ?_
            exact dflt rfl (by omega)
          · refine w_tableD (t := 245) aX3_perform_53 (Or.inl (by decide)) (by decide) ?_
            exact dflt rfl (by omega)
          · refine w_tableD (t := 245) aX3_perform_53 (Or.inr (by decide)) (by decide) ?_
            exact dflt rfl (by omega)
          · refine w_tableD (t := 245) aX3_perform_53 (Or.inr (by decide)) (by decide) ?_
            exact dflt rfl (by omega)
        · have hs2 : 200 ≤ sS S := Nat.le_of_not_lt (fun z => c13 (nI_lt (b := 200) z (by omega)))
          rw [if_pos hs2]
          refine w_bipush (v := 6) (q := 18) aX3_perform_16 rfl rfl ?_
          refine w_iret aX3_perform_18 rfl ?_
          exact ⟨rfl, hR, fr.rf, fun _ _ => rfl⟩
      · cases c1
end
section
def gP (q : Int32 × St) (h : mm_H) : Option Value → mm_H → Prop := fun r h' => r = some (.int q.1) ∧ RC q.2 h' ∧ fr AC h h'
theorem Go.drain {pf : Pf} (hp : PfOk pf) : ∀ (n : Nat) (e : Int32) (S : St), Ok S → Go S (m_drain pf n e S).2 := by
  intro n
  induction n with
  | zero => intro e S _; exact Go.rf S
  | succ n ih =>
    intro e S ho
    unfold m_drain
    split
    · split
      · exact Go.rf S
      · rename_i q qs hq
        have g1 : Go S (uQ S qs) := Go.Q (fun e he => ho.2.2.2.2.1 e (by rw [hq]; exact List.mem_cons_of_mem _ he))
        have g2 := g1.tr (Go.ring hp (k := q.1.toNatClampNeg) (v := q.2) (g1.1 ho))
        exact g2.tr (ih _ _ (g2.1 ho))
    · exact Go.rf S
theorem l_rqa {F : Nat} (hF : 615 ≤ F) {h0 : mm_H} {e0 : Int32} : ∀ (m tk : Nat) (e : Int32) (S : St) (h : mm_H), m + tk = 220 → Ok S → RC S h → fr AC h0 h → mW none (F + 1) mX3_ringQueueAfter 9 [(4, .int (nI tk)), (3, .int 220), (2, .int e), (0, .ref 1), (1, .int e0)] [] h (gP (m_drain (m_perf 201) m e S) h0) := by
  have fin : ∀ (e : Int32) (S : St) (h : mm_H) (ls : mm_L), mm_lk ls 2 = some (.int e) → RC S h → fr AC h0 h → mW none (F + 1) mX3_ringQueueAfter 69 ls [] h (gP (e, S) h0) := fun e S h ls hl hR hf => by
    refine w_iload_n (q := 70) aX3_ringQueueAfter_69 hl rfl ?_
    refine w_iret aX3_ringQueueAfter_70 rfl ?_
    exact ⟨rfl, hR, hf⟩
  intro m
  induction m with
  | zero =>
    intro tk e S h hm ho hR hf
    refine w_iload (q := 11) aX3_ringQueueAfter_9 rfl rfl ?_
    refine w_iload_n (q := 12) aX3_ringQueueAfter_11 rfl rfl ?_
    refine w_ic_ge (t := 69) (q := 15) aX3_ringQueueAfter_12 (by decide) rfl (fun c12 => ?_) (fun c12 => ?_)
    · exact fin e S h _ rfl hR hf
    · exact absurd (by obtain rfl : tk = 220 := by omega
                       decide) c12
  | succ m ih =>
    intro tk e S h hm ho hR hf
    refine w_iload (q := 11) aX3_ringQueueAfter_9 rfl rfl ?_
    refine w_iload_n (q := 12) aX3_ringQueueAfter_11 rfl rfl ?_
    refine w_ic_ge (t := 69) (q := 15) aX3_ringQueueAfter_12 (by decide) rfl (fun c12 => ?_) (fun c12 => ?_)
    · exact absurd c12 (nI_ge (b := 220) (by omega) (by omega))
    · refine w_iload_n (q := 16) aX3_ringQueueAfter_15 rfl rfl ?_
      refine w_if_ne (t := 69) (q := 19) aX3_ringQueueAfter_16 (by decide) rfl (fun c16 => ?_) (fun c16 => ?_)
      · unfold m_drain
        rw [if_neg c16]
        exact fin e S h _ rfl hR hf
      · subst c16
        unfold m_drain
        rw [if_pos rfl]
        obtain ⟨hd, fb, fv, h4, h5, h6, hhd, hlen, hqe⟩ := hR.qu
        refine w_aload_n (q := 20) aX3_ringQueueAfter_19 rfl rfl ?_
        refine w_get (q := 23) aX3_ringQueueAfter_20 f_3_22 (hR.ho) rfl rfl ?_
        refine w_get (q := 26) aX3_ringQueueAfter_23 f_3_121 (h4) rfl rfl ?_
        refine w_if_le (t := 69) (q := 29) aX3_ringQueueAfter_26 (by decide) rfl (fun c26 => ?_) (fun c26 => ?_)
        · cases hq : sQ S with
          | nil => exact fin 0 S h _ rfl hR hf
          | cons q qs =>
            rw [hq] at c26 hlen
            exact absurd c26 (nI_nle (by simp) (by omega))
        · cases hq : sQ S with
          | nil => rw [hq] at c26; exact absurd (by decide) c26
          | cons q qs =>
            have hQR : QR h (q :: qs) := by rw [← hq]; exact hR.qu
            obtain ⟨i, hi, ei⟩ := rN_of (by omega) (ho.2.2.2.2.1 q (by rw [hq]; exact List.mem_cons_self))
            have g1 : Go S (uQ S qs) := Go.Q (fun e he => ho.2.2.2.2.1 e (by rw [hq]; exact List.mem_cons_of_mem _ he))
            have g2 := g1.tr (Go.ring (PfOk.perf 201) (k := i) (v := q.2) (g1.1 ho))
            refine w_aload_n (q := 30) aX3_ringQueueAfter_29 rfl rfl ?_
            refine w_get (q := 33) aX3_ringQueueAfter_30 f_3_22 (hR.ho) rfl rfl ?_
            refine w_callV aX3_ringQueueAfter_33 t_3_135 (this_at rfl h4) (rfl) (c_firstBell hQR) (fun r33 h33 hp => ?_)
            obtain ⟨rfl, rfl⟩ := hp
            refine w_istore (q := 38) (ls' := [(5, _), (4, _), (3, _), (2, _), (0, _), (1, _)]) aX3_ringQueueAfter_36 (by decide) rfl rfl ?_
            refine w_aload_n (q := 39) aX3_ringQueueAfter_38 rfl rfl ?_
            refine w_get (q := 42) aX3_ringQueueAfter_39 f_3_22 (hR.ho) rfl rfl ?_
            refine w_callV aX3_ringQueueAfter_42 t_3_139 (this_at rfl h4) (rfl) (c_firstValue hQR) (fun r42 h42 hp => ?_)
            obtain ⟨rfl, rfl⟩ := hp
            refine w_lstore (q := 47) (ls' := [(6, _), (5, _), (4, _), (3, _), (2, _), (0, _), (1, _)]) aX3_ringQueueAfter_45 (by decide) rfl rfl ?_
            refine w_aload_n (q := 48) aX3_ringQueueAfter_47 rfl rfl ?_
            refine w_get (q := 51) aX3_ringQueueAfter_48 f_3_22 (hR.ho) rfl rfl ?_
            refine w_callV aX3_ringQueueAfter_51 t_3_143 (this_at rfl h4) (rfl) (c_dropFirst hQR) (fun r51 h51 hp => ?_)
            obtain ⟨rfl, hQ2, hfq⟩ := hp
            have hR2 := hR.upQu hfq hQ2
            refine w_aload_n (q := 55) aX3_ringQueueAfter_54 rfl rfl ?_
            refine w_iload (q := 57) aX3_ringQueueAfter_55 rfl rfl ?_
            refine w_lload (q := 59) aX3_ringQueueAfter_57 rfl rfl ?_
            rw [ei]
            refine w_callV aX3_ringQueueAfter_59 t_3_80 (this_at rfl hR2.ho) (rfl) (c_ringBell (c_perform 201) (by omega) (g1.1 ho) hR2 hi (by omega)) (fun r59 h59 hp => ?_)
            obtain ⟨rfl, hR3, hf3, -⟩ := hp
            refine w_istore_n (q := 63) (ls' := [(2, _), (6, _), (5, _), (4, _), (3, _), (0, _), (1, _)]) aX3_ringQueueAfter_62 (by decide) rfl rfl ?_
            refine w_iinc (q := 66) (ls' := [(4, _), (2, _), (6, _), (5, _), (3, _), (0, _), (1, _)]) aX3_ringQueueAfter_63 rfl rfl (by decide) rfl rfl ?_
            refine w_goto (t := 9) aX3_ringQueueAfter_66 (by decide) ?_
            rw [show nI tk + Int32.ofInt 1 = nI (tk + 1) from nI_1 tk]
            dsimp only
            rw [ei, nI_clamp (by omega)]
            exact mW.ls (ih (tk + 1) _ _ h59 (by omega) (g2.1 ho) hR3 ((hf.tr (hfq.mono (fun q hq => Or.inl (by unfold Aq at hq; omega)))).tr hf3)) (((((Rl.nil.cons rfl).cons rfl).cons rfl).cons rfl).cons rfl)
theorem c_rqa {F : Nat} (hF : 616 ≤ F) {h : mm_H} {S : St} {e : Int32} (ho : Ok S) (hR : RC S h) : mW none F mX3_ringQueueAfter 0 [(0, .ref 1), (1, .int e)] [] h (gP (m_drain (m_perf 201) 220 e S) h) := by
  obtain ⟨G, rfl⟩ : ∃ G, F = G + 1 := ⟨F - 1, by omega⟩
  refine w_iload_n (q := 1) aX3_ringQueueAfter_0 rfl rfl ?_
  refine w_istore_n (q := 2) (ls' := [(2, _), (0, _), (1, _)]) aX3_ringQueueAfter_1 (by decide) rfl rfl ?_
  refine w_sipush (v := 220) (q := 5) aX3_ringQueueAfter_2 rfl rfl ?_
  refine w_istore_n (q := 6) (ls' := [(3, _), (2, _), (0, _), (1, _)]) aX3_ringQueueAfter_5 (by decide) rfl rfl ?_
  refine w_iconst (v := 0) (q := 7) aX3_ringQueueAfter_6 rfl rfl ?_
  refine w_istore (q := 9) (ls' := [(4, _), (3, _), (2, _), (0, _), (1, _)]) aX3_ringQueueAfter_7 (by decide) rfl rfl ?_
  exact l_rqa (by omega) 220 0 e S h rfl ho hR fr.rf
def p_ring (S : St) (b : Int32) (v : Int64) : Int32 × St := if rN 6 b then (if 2000 ≤ sC S 9 then (-3, S) else m_answer (m_drain (m_perf 201) 220 (m_ring (m_perf 201) (uS S 0) b.toNatClampNeg v).1 (m_ring (m_perf 201) (uS S 0) b.toNatClampNeg v).2)) else (-2, S)
def p_drain (S : St) : Int32 × St := if 2000 ≤ sC S 9 then (-3, S) else m_answer (m_drain (m_perf 201) 220 0 (uS S 0))
def p_do (S : St) (x : Int32) (v : Int64) : Int32 × St := if rN (sM S) x then (if 2000 ≤ sC S 9 then (-3, S) else m_answer (m_drain (m_perf 201) 220 (m_well (m_perf 201 (uS S 0) (sH S x.toNatClampNeg) v).1) (m_perf 201 (uS S 0) (sH S x.toNatClampNeg) v).2)) else (-2, S)
theorem Ok.s0 {S : St} (ho : Ok S) : Ok (uS S 0) := ⟨ho.1, ho.2.1, ho.2.2.1, ho.2.2.2.1, ho.2.2.2.2.1, ho.2.2.2.2.2.1, by show 0 ≤ 200; omega⟩
theorem RC.s0 {S : St} {h : mm_H} (r : RC S h) : RC (uS S 0) (mm_up h 1 (3, [.ref 2, .ref 3, .ref 4, .ref 7, .ref 8, .int (nI (sM S)), .ref 9, .int (nI (sD S)), .int 0, .int (sC S 1), .int (sC S 2), .int (sC S 3), .int (sC S 4), .int (sC S 5), .int (sC S 6), .int (sC S 8), .int (sC S 9)])) := r.upHo (S' := uS S 0) rfl ⟨rfl, rfl, rfl, rfl, rfl, rfl, rfl, rfl⟩
theorem c_ring {F : Nat} (hF : 620 ≤ F) {h : mm_H} {S : St} {b : Int32} {v : Int64} (ho : Ok S) (hR : RC S h) : mW none F mX3_ring 0 [(0, .ref 1), (1, .int b), (2, .long v)] [] h (gP (p_ring S b v) h) := by
  obtain ⟨G, rfl⟩ : ∃ G, F = G + 2 := ⟨F - 2, by omega⟩
  unfold p_ring
  refine w_iload_n (q := 1) aX3_ring_0 rfl rfl ?_
  refine w_callS aX3_ring_1 x_3_49 t_3_49 (rfl) (c_isBell) (fun r1 h1 hp => ?_)
  obtain ⟨rfl, rfl⟩ := hp
  refine w_if_ne (t := 10) (q := 7) aX3_ring_4 (by decide) rfl (fun c4 => ?_) (fun c4 => ?_)
  · have hb := bz_ne0 c4
    rw [if_pos hb]
    obtain ⟨j, hj, rfl⟩ := rN_of (by omega) hb
    rw [nI_clamp (by omega)]
    refine w_aload_n (q := 11) aX3_ring_10 rfl rfl ?_
    refine w_get (q := 14) aX3_ring_11 f_3_74 (hR.ho) rfl rfl ?_
    refine w_sipush (v := 2000) (q := 17) aX3_ring_14 rfl rfl ?_
    refine w_ic_lt (t := 23) (q := 20) aX3_ring_17 (by decide) rfl (fun c17 => ?_) (fun c17 => ?_)
    · rw [if_neg (fun z => k2_nlt z c17)]
      refine w_aload_n (q := 24) aX3_ring_23 rfl rfl ?_
      refine w_iconst (v := 0) (q := 25) aX3_ring_24 rfl rfl ?_
      refine w_put (q := 28) (fs' := [_, _, _, _, _, _, _, _, _, _, _, _, _, _, _, _, _]) aX3_ring_25 f_3_77 (hR.ho) (Nat.le_of_ble_eq_true rfl) rfl rfl (Or.inl rfl) rfl rfl ?_
      have hR0 := hR.s0
      have ho0 := ho.s0
      have g1 := Go.ring (PfOk.perf 201) (k := j) (v := v) ho0
      refine w_aload_n (q := 29) aX3_ring_28 rfl rfl ?_
      refine w_aload_n (q := 30) aX3_ring_29 rfl rfl ?_
      refine w_aload_n (q := 31) aX3_ring_30 rfl rfl ?_
      refine w_iload_n (q := 32) aX3_ring_31 rfl rfl ?_
      refine w_lload_n (q := 33) aX3_ring_32 rfl rfl ?_
      refine w_callV aX3_ring_33 t_3_80 (this_at rfl hR0.ho) (rfl) (c_ringBell (c_perform 201) (by omega) ho0 hR0 hj (by omega)) (fun r33 h33 hp => ?_)
      obtain ⟨rfl, hR1, hf1, -⟩ := hp
      refine w_callV aX3_ring_36 t_3_84 (this_at rfl hR1.ho) (rfl) (c_rqa (by omega) (g1.1 ho0) hR1) (fun r36 h36 hp => ?_)
      obtain ⟨rfl, hR2, hf2⟩ := hp
      refine w_callV aX3_ring_39 t_3_87 (this_at rfl hR2.ho) (rfl) (c_answerOfCall hR2) (fun r39 h39 hp => ?_)
      obtain ⟨rfl, hR3, hf3⟩ := hp
      refine w_iret aX3_ring_42 rfl ?_
      exact ⟨rfl, hR3, (((fr.rf.up (Or.inl (by omega))).tr hf1).tr hf2).tr (hf3.mono (fun _ z => z.1))⟩
    · rw [if_pos (k2_le c17)]
      refine w_bipush (v := -3) (q := 22) aX3_ring_20 rfl rfl ?_
      refine w_iret aX3_ring_22 rfl ?_
      exact ⟨rfl, hR, fr.rf⟩
  · rw [if_neg (bz_eq0 c4)]
    refine w_bipush (v := -2) (q := 9) aX3_ring_7 rfl rfl ?_
    refine w_iret aX3_ring_9 rfl ?_
    exact ⟨rfl, hR, fr.rf⟩
theorem c_drain {F : Nat} (hF : 620 ≤ F) {h : mm_H} {S : St} (ho : Ok S) (hR : RC S h) : mW none F mX3_drain 0 [(0, .ref 1)] [] h (gP (p_drain S) h) := by
  obtain ⟨G, rfl⟩ : ∃ G, F = G + 2 := ⟨F - 2, by omega⟩
  unfold p_drain
  refine w_aload_n (q := 1) aX3_drain_0 rfl rfl ?_
  refine w_get (q := 4) aX3_drain_1 f_3_74 (hR.ho) rfl rfl ?_
  refine w_sipush (v := 2000) (q := 7) aX3_drain_4 rfl rfl ?_
  refine w_ic_lt (t := 13) (q := 10) aX3_drain_7 (by decide) rfl (fun c7 => ?_) (fun c7 => ?_)
  · rw [if_neg (fun z => k2_nlt z c7)]
    refine w_aload_n (q := 14) aX3_drain_13 rfl rfl ?_
    refine w_iconst (v := 0) (q := 15) aX3_drain_14 rfl rfl ?_
    refine w_put (q := 18) (fs' := [_, _, _, _, _, _, _, _, _, _, _, _, _, _, _, _, _]) aX3_drain_15 f_3_77 (hR.ho) (Nat.le_of_ble_eq_true rfl) rfl rfl (Or.inl rfl) rfl rfl ?_
    have hR0 := hR.s0
    have ho0 := ho.s0
    refine w_aload_n (q := 19) aX3_drain_18 rfl rfl ?_
    refine w_aload_n (q := 20) aX3_drain_19 rfl rfl ?_
    refine w_iconst (v := 0) (q := 21) aX3_drain_20 rfl rfl ?_
    refine w_callV aX3_drain_21 t_3_84 (this_at rfl hR0.ho) (rfl) (c_rqa (by omega) ho0 hR0) (fun r21 h21 hp => ?_)
    obtain ⟨rfl, hR2, hf2⟩ := hp
    refine w_callV aX3_drain_24 t_3_87 (this_at rfl hR2.ho) (rfl) (c_answerOfCall hR2) (fun r24 h24 hp => ?_)
    obtain ⟨rfl, hR3, hf3⟩ := hp
    refine w_iret aX3_drain_27 rfl ?_
    exact ⟨rfl, hR3, ((fr.rf.up (Or.inl (by omega))).tr hf2).tr (hf3.mono (fun _ z => z.1))⟩
  · rw [if_pos (k2_le c7)]
    refine w_bipush (v := -3) (q := 12) aX3_drain_10 rfl rfl ?_
    refine w_iret aX3_drain_12 rfl ?_
    exact ⟨rfl, hR, fr.rf⟩
theorem c_act {F : Nat} (hF : 620 ≤ F) {h : mm_H} {S : St} {x : Int32} {v : Int64} (ho : Ok S) (hR : RC S h) : mW none F mX3_act 0 [(0, .ref 1), (1, .int x), (2, .long v)] [] h (gP (p_do S x v) h) := by
  obtain ⟨G, rfl⟩ : ∃ G, F = G + 2 := ⟨F - 2, by omega⟩
  have hM := ho.1
  unfold p_do
  refine w_aload_n (q := 1) aX3_act_0 rfl rfl ?_
  refine w_iload_n (q := 2) aX3_act_1 rfl rfl ?_
  refine w_callV aX3_act_2 t_3_64 (this_at rfl hR.ho) (rfl) (c_isHearer hR) (fun r2 h2 hp => ?_)
  obtain ⟨rfl, rfl⟩ := hp
  refine w_if_ne (t := 11) (q := 8) aX3_act_5 (by decide) rfl (fun c5 => ?_) (fun c5 => ?_)
  · have hb := bz_ne0 c5
    rw [if_pos hb]
    obtain ⟨j, hj, rfl⟩ := rN_of (by omega) hb
    rw [nI_clamp (by omega)]
    refine w_aload_n (q := 12) aX3_act_11 rfl rfl ?_
    refine w_get (q := 15) aX3_act_12 f_3_74 (hR.ho) rfl rfl ?_
    refine w_sipush (v := 2000) (q := 18) aX3_act_15 rfl rfl ?_
    refine w_ic_lt (t := 24) (q := 21) aX3_act_18 (by decide) rfl (fun c18 => ?_) (fun c18 => ?_)
    · rw [if_neg (fun z => k2_nlt z c18)]
      refine w_aload_n (q := 25) aX3_act_24 rfl rfl ?_
      refine w_iconst (v := 0) (q := 26) aX3_act_25 rfl rfl ?_
      refine w_put (q := 29) (fs' := [_, _, _, _, _, _, _, _, _, _, _, _, _, _, _, _, _]) aX3_act_26 f_3_77 (hR.ho) (Nat.le_of_ble_eq_true rfl) rfl rfl (Or.inl rfl) rfl rfl ?_
      have hR0 := hR.s0
      have ho0 := ho.s0
      have g1 := PfOk.perf 201 (uS S 0) (sH S j) v ho0 (ho.2.1 j)
      refine w_aload_n (q := 30) aX3_act_29 rfl rfl ?_
      refine w_aload_n (q := 31) aX3_act_30 rfl rfl ?_
      refine w_aload_n (q := 32) aX3_act_31 rfl rfl ?_
      refine w_aload_n (q := 33) aX3_act_32 rfl rfl ?_
      refine w_get (q := 36) aX3_act_33 f_3_32 (hR0.ho) rfl rfl ?_
      refine w_iload_n (q := 37) aX3_act_36 rfl rfl ?_
      refine w_aald (q := 38) aX3_act_37 (hR0.ha) (by decide) (mm_ix_at (n := j) rfl (by omega) (rg_at (by omega))) rfl ?_
      refine w_lload_n (q := 39) aX3_act_38 rfl rfl ?_
      refine w_callV aX3_act_39 t_3_90 (this_at rfl hR0.ho) (call3 (by decide) (Nat.le_of_ble_eq_true rfl)) ((by rw [lvA3]; exact c_perform 201 _ _ (uS S 0) (sH S j) v (by omega) ho0 hR0 (ho.2.1 j) (by omega))) (fun r39 h39 hp => ?_)
      obtain ⟨rfl, hR1, hf1, -⟩ := hp
      refine w_callS aX3_act_42 x_3_94 t_3_94 (rfl) (c_wellIfStopped) (fun r42 h42 hp => ?_)
      obtain ⟨rfl, rfl⟩ := hp
      refine w_callV aX3_act_45 t_3_84 (this_at rfl hR1.ho) (rfl) (c_rqa (by omega) (g1.1 ho0) hR1) (fun r45 h45 hp => ?_)
      obtain ⟨rfl, hR2, hf2⟩ := hp
      refine w_callV aX3_act_48 t_3_87 (this_at rfl hR2.ho) (rfl) (c_answerOfCall hR2) (fun r48 h48 hp => ?_)
      obtain ⟨rfl, hR3, hf3⟩ := hp
      refine w_iret aX3_act_51 rfl ?_
      exact ⟨rfl, hR3, (((fr.rf.up (Or.inl (by omega))).tr hf1).tr hf2).tr (hf3.mono (fun _ z => z.1))⟩
    · rw [if_pos (k2_le c18)]
      refine w_bipush (v := -3) (q := 23) aX3_act_21 rfl rfl ?_
      refine w_iret aX3_act_23 rfl ?_
      exact ⟨rfl, hR, fr.rf⟩
  · rw [if_neg (bz_eq0 c5)]
    refine w_bipush (v := -2) (q := 10) aX3_act_8 rfl rfl ?_
    refine w_iret aX3_act_10 rfl ?_
    exact ⟨rfl, hR, fr.rf⟩
end
section
/-! THE REFERENCE: its object at 32, its rows from 33 on. A frame of its pile: what, of, with, who is to be told, how many were -/
abbrev Fr : Type := Int32 × Int32 × Int64 × List Int32 × Nat
/-- failure, stops, beginning, value -/
abbrev Xs : Type := Int32 × Int32 × Int32 × Int64
/-- what the reference holds beside the state: lines, times, the queue's two rows, the pile's six -/
abbrev Raw : Type := (Nat → Int32) × (Nat → Int32) × (Nat → Int32) × (Nat → Int64) × (Nat → Int32) × (Nat → Int32) × (Nat → Int64) × (Nat → Int32) × (Nat → Int32) × (Nat → Int32)
def oI (o : Option Nat) : Int32 := match o with
  | none => -1
  | some k => nI k
def moL (S : St) (n : Nat) (X : Xs) : List Value := [.ref 33, .ref 34, .ref 35, .ref 36, .int (nI (sM S)), .ref 37, .ref 38, .ref 39, .ref 40, .ref 41, .ref 42, .ref 43, .ref 44, .ref 45, .ref 46, .ref 47, .int (nI (sQ S).length), .int (nI n), .ref 48, .ref 49, .ref 50, .ref 51, .ref 52, .ref 53, .int (nI (sD S)), .int (nI (sS S)), .int X.1, .int X.2.1, .int X.2.2.1, .long X.2.2.2, .ref 54]
def cM (S : St) (n : Nat) (X : Xs) (w : Raw) (q : Nat) : mm_C := match q with
  | 32 => (4, moL S n X)
  | 33 => (6, rg 8 (fun j => .long (sT S j)))
  | 34 => (5, rg 6 (fun j => .int (sW S j)))
  | 35 => (5, rg 72 (fun j => .int (w.1 j)))
  | 36 => (5, rg 6 (fun j => .int (nI (sL S j).length)))
  | 37 => (5, rg 40 (fun j => .int (if j < sM S then (sA S j).1 else 0)))
  | 38 => (5, rg 40 (fun j => .int (if j < sM S then (sA S j).2.1 else 0)))
  | 39 => (5, rg 40 (fun j => .int (if j < sM S then (sA S j).2.2.1 else 0)))
  | 40 => (6, rg 40 (fun j => .long (if j < sM S then (sA S j).2.2.2.1 else 0)))
  | 41 => (5, rg 40 (fun j => .int (if j < sM S then oI (sA S j).2.2.2.2.1 else 0)))
  | 42 => (5, rg 40 (fun j => .int (if j < sM S then oI (sA S j).2.2.2.2.2 else 0)))
  | 43 => (5, rg 40 (fun j => .int (w.2.1 j)))
  | 44 => (5, rg 40 (fun j => .int (if j < sM S then nI (sB S j) else 0)))
  | 45 => (5, rg 40 (fun j => .int (if j < sM S then oI (sH S j) else 0)))
  | 46 => (5, rg 20 (fun j => .int (w.2.2.1 j)))
  | 47 => (6, rg 20 (fun j => .long (w.2.2.2.1 j)))
  | 48 => (5, rg 600 (fun j => .int (w.2.2.2.2.1 j)))
  | 49 => (5, rg 600 (fun j => .int (w.2.2.2.2.2.1 j)))
  | 50 => (6, rg 600 (fun j => .long (w.2.2.2.2.2.2.1 j)))
  | 51 => (5, rg 600 (fun j => .int (w.2.2.2.2.2.2.2.1 j)))
  | 52 => (5, rg 600 (fun j => .int (w.2.2.2.2.2.2.2.2.1 j)))
  | 53 => (5, rg 7200 (fun j => .int (w.2.2.2.2.2.2.2.2.2 j)))
  | _ => (5, rg 10 (fun j => .int (if j = 0 then nI (sM S) else sC S j)))
/-- the cells -/
def hM (S : St) (n : Nat) (X : Xs) (w : Raw) (h : mm_H) : Prop := ∀ q, 32 ≤ q → q < 55 → h.2.2 q = some (cM S n X w q)
theorem q23 (q : Nat) (h1 : 32 ≤ q) (h2 : q < 55) : q = 32 ∨ q = 33 ∨ q = 34 ∨ q = 35 ∨ q = 36 ∨ q = 37 ∨ q = 38 ∨ q = 39 ∨ q = 40 ∨ q = 41 ∨ q = 42 ∨ q = 43 ∨ q = 44 ∨ q = 45 ∨ q = 46 ∨ q = 47 ∨ q = 48 ∨ q = 49 ∨ q = 50 ∨ q = 51 ∨ q = 52 ∨ q = 53 ∨ q = 54 := by omega
theorem hM.up {S S' : St} {n n' : Nat} {X X' : Xs} {w w' : Raw} {h : mm_H} {a : Nat} {c : mm_C} (hm : hM S n X w h) (hx : c = cM S' n' X' w' a) (ho : ∀ q, 32 ≤ q → q < 55 → ¬ q = a → cM S' n' X' w' q = cM S n X w q) : hM S' n' X' w' (mm_up h a c) := by
  intro q h1 h2
  by_cases e : q = a
  · subst e
    rw [up_s, hx]
  · rw [up_n e, hm q h1 h2, ho q h1 h2 e]
/-- the lines -/
def rLn (S : St) (li : Nat → Int32) : Prop := ∀ k, k < 6 → (sL S k).length ≤ 12 ∧ (sL S k).Nodup ∧ ∀ i x, (sL S k)[i]? = some x → li (12 * k + i) = x
/-- how often a FIRST has done its act, an EACH since its last -/
def rTm (A : Act9) (n : Nat) (t : Int32) : Prop := (A.1 = 8 → ∃ c : Nat, t = nI c ∧ c ≤ n ∧ ((n : Int) < A.2.2.1.toInt → c = n) ∧ (A.2.2.1.toInt ≤ (n : Int) → A.2.2.1.toInt ≤ (c : Int))) ∧ (A.1 = 9 → ∃ c : Nat, t = nI c ∧ c = n % (if A.2.2.1 < 1 then 1 else A.2.2.1.toNatClampNeg))
def rTi (S : St) (ti : Nat → Int32) : Prop := ∀ k, k < sM S → rTm (sA S k) (sB S k) (ti k)
def rQu (S : St) (qb : Nat → Int32) (qv : Nat → Int64) : Prop := (sQ S).length ≤ 20 ∧ ∀ i e, (sQ S)[i]? = some e → qb i = e.1 ∧ qv i = e.2
/-- the pile -/
def rPi (P : List Fr) (w : Raw) : Prop := ∀ p f, P[p]? = some f → w.2.2.2.2.1 p = f.1 ∧ w.2.2.2.2.2.1 p = f.2.1 ∧ w.2.2.2.2.2.2.1 p = f.2.2.1 ∧ (f.1 = 0 → w.2.2.2.2.2.2.2.1 p = nI f.2.2.2.2 ∧ w.2.2.2.2.2.2.2.2.1 p = nI f.2.2.2.1.length ∧ f.2.2.2.1.length ≤ 12 ∧ ∀ i x, f.2.2.2.1[i]? = some x → w.2.2.2.2.2.2.2.2.2 (12 * p + i) = x)
/-- the reference's cells hold the state S, the pile P and X -/
def RM (S : St) (P : List Fr) (X : Xs) (h : mm_H) : Prop := ∃ w : Raw, hM S P.length X w h ∧ rLn S w.1 ∧ rTi S w.2.1 ∧ rQu S w.2.2.1 w.2.2.2.1 ∧ rPi P w
def AM (q : Nat) : Prop := 32 ≤ q ∧ q < 55
theorem AM_l {a : Nat} (h : 32 ≤ a ∧ a < 55) : AM a := h
/-- a call's end in the reference -/
def mP (q : Int32 × St) (P : List Fr) (X : Xs) (h : mm_H) : Option Value → mm_H → Prop := fun r h' => r = some (.int q.1) ∧ RM q.2 P X h' ∧ fr AM h h'
end
section
theorem d_in {F : Nat} {h : mm_H} {v a b : Int64} : mW none F mX4_in 0 [(0, .long v), (2, .long a), (4, .long b)] [] h (fun r h' => r = some (.int (bz (¬ v < a ∧ v ≤ b))) ∧ h = h') := by
  refine w_lload_n (q := 1) aX4_in_0 rfl rfl ?_
  refine w_lload_n (q := 2) aX4_in_1 rfl rfl ?_
  refine w_lcmp (q := 3) aX4_in_2 rfl ?_
  refine w_if_lt (t := 17) (q := 6) aX4_in_3 (by decide) rfl (fun c3 => ?_) (fun c3 => ?_)
  · refine w_iconst (v := 0) (q := 18) aX4_in_17 rfl rfl ?_
    refine w_zret aX4_in_18 rfl (Or.inl rfl) ?_
    exact ⟨by rw [bz_0 (fun z => z.1 ((lg_cmp_lt _ _).mp c3))], rfl⟩
  · refine w_lload_n (q := 7) aX4_in_6 rfl rfl ?_
    refine w_lload (q := 9) aX4_in_7 rfl rfl ?_
    refine w_lcmp (q := 10) aX4_in_9 rfl ?_
    refine w_if_gt (t := 17) (q := 13) aX4_in_10 (by decide) rfl (fun c10 => ?_) (fun c10 => ?_)
    · refine w_iconst (v := 0) (q := 18) aX4_in_17 rfl rfl ?_
      refine w_zret aX4_in_18 rfl (Or.inl rfl) ?_
      exact ⟨by rw [bz_0 (fun z => Int64.not_lt.mpr z.2 ((lg_cmp_gt _ _).mp c10))], rfl⟩
    · refine w_iconst (v := 1) (q := 14) aX4_in_13 rfl rfl ?_
      refine w_goto (t := 18) aX4_in_14 (by decide) ?_
      refine w_zret aX4_in_18 rfl (Or.inr rfl) ?_
      exact ⟨by rw [bz_1 ⟨fun z => c3 ((lg_cmp_lt _ _).mpr z), Int64.not_lt.mp (fun z => c10 ((lg_cmp_gt _ _).mpr z))⟩], rfl⟩
theorem in_rN {x : Int32} {n : Nat} {b : Int64} (hn : n < 2 ^ 31) (hb : b.toInt = (n : Int) - 1) : (¬ x.toInt64 < 0 ∧ x.toInt64 ≤ b) ↔ rN n x := by
  unfold rN
  rw [Int64.lt_iff_toInt_lt, Int64.le_iff_toInt_le, Int32.lt_iff_toInt_lt, Int32.lt_iff_toInt_lt, Int32.toInt_toInt64, nI_toInt hn, hb]
  show (¬ x.toInt < 0 ∧ x.toInt ≤ (n : Int) - 1) ↔ (¬ x.toInt < 0 ∧ x.toInt < (n : Int))
  omega
theorem nIm1 {n : Nat} (hn : n < 2 ^ 31) : (nI n - 1).toInt64.toInt = (n : Int) - 1 := by
  rw [Int32.toInt_toInt64]
  cases n with
  | zero => decide
  | succ n =>
    rw [nI_pred, nI_toInt (by omega)]
    omega
theorem d_isHearer {F : Nat} {h : mm_H} {S : St} {n : Nat} {X : Xs} {w : Raw} {x : Int32} (hS : sM S ≤ 40) (hm : hM S n X w h) : mW none (F + 1) mX4_isHearer 0 [(0, .ref 32), (1, .int x)] [] h (fun r h' => r = some (.int (bz (rN (sM S) x))) ∧ h = h') := by
  refine w_iload_n (q := 1) aX4_isHearer_0 rfl rfl ?_
  refine w_i2l (q := 2) aX4_isHearer_1 rfl ?_
  refine w_lconst (v := 0) (q := 3) aX4_isHearer_2 rfl rfl ?_
  refine w_aload_n (q := 4) aX4_isHearer_3 rfl rfl ?_
  refine w_get (q := 7) aX4_isHearer_4 f_4_81 (hm 32 (by decide) (by decide)) rfl rfl ?_
  refine w_iconst (v := 1) (q := 8) aX4_isHearer_7 rfl rfl ?_
  refine w_isub (q := 9) aX4_isHearer_8 rfl ?_
  refine w_i2l (q := 10) aX4_isHearer_9 rfl ?_
  refine w_callS aX4_isHearer_10 x_4_85 t_4_85 (rfl) (d_in) (fun r10 h10 hp => ?_)
  obtain ⟨rfl, rfl⟩ := hp
  refine w_zret aX4_isHearer_13 rfl (bz_or) ?_
  exact ⟨by rw [bz_iff (in_rN (by omega) (nIm1 (by omega)))], rfl⟩
theorem d_isBell {F : Nat} {h : mm_H} {x : Int32} : mW none (F + 1) mX4_isBell 0 [(0, .int x)] [] h (fun r h' => r = some (.int (bz (rN 6 x))) ∧ h = h') := by
  refine w_iload_n (q := 1) aX4_isBell_0 rfl rfl ?_
  refine w_i2l (q := 2) aX4_isBell_1 rfl ?_
  refine w_lconst (v := 0) (q := 3) aX4_isBell_2 rfl rfl ?_
  refine w_ldc (q := 6) aX4_isBell_3 l_4_89 rfl ?_
  refine w_callS aX4_isBell_6 x_4_85 t_4_85 (rfl) (d_in) (fun r6 h6 hp => ?_)
  obtain ⟨rfl, rfl⟩ := hp
  refine w_zret aX4_isBell_9 rfl (bz_or) ?_
  exact ⟨by rw [bz_iff (in_rN (n := 6) (by omega) (by decide))], rfl⟩
theorem d_isTally {F : Nat} {h : mm_H} {x : Int32} : mW none (F + 1) mX4_isTally 0 [(0, .int x)] [] h (fun r h' => r = some (.int (bz (rN 8 x))) ∧ h = h') := by
  refine w_iload_n (q := 1) aX4_isTally_0 rfl rfl ?_
  refine w_i2l (q := 2) aX4_isTally_1 rfl ?_
  refine w_lconst (v := 0) (q := 3) aX4_isTally_2 rfl rfl ?_
  refine w_ldc (q := 6) aX4_isTally_3 l_4_91 rfl ?_
  refine w_callS aX4_isTally_6 x_4_85 t_4_85 (rfl) (d_in) (fun r6 h6 hp => ?_)
  obtain ⟨rfl, rfl⟩ := hp
  refine w_zret aX4_isTally_9 rfl (bz_or) ?_
  exact ⟨by rw [bz_iff (in_rN (n := 8) (by omega) (by decide))], rfl⟩
theorem d_tally {F : Nat} {h : mm_H} {S : St} {P : List Fr} {X : Xs} {k : Int32} {v : Int64} (hR : RM S P X h) : mW none (F + 2) mX4_tally 0 [(0, .ref 32), (1, .int k), (2, .long v)] [] h (mP (p_tally S k v) P X h) := by
  obtain ⟨w, hm, r1, r2, r3, r4⟩ := hR
  unfold p_tally
  refine w_iload_n (q := 1) aX4_tally_0 rfl rfl ?_
  refine w_callS aX4_tally_1 x_4_93 t_4_93 (rfl) (d_isTally) (fun r1 h1 hp => ?_)
  obtain ⟨rfl, rfl⟩ := hp
  refine w_if_ne (t := 10) (q := 7) aX4_tally_4 (by decide) rfl (fun c4 => ?_) (fun c4 => ?_)
  · have hk := bz_ne0 c4
    rw [if_pos hk]
    obtain ⟨j, hj, rfl⟩ := rN_of (by omega) hk
    rw [nI_clamp (by omega)]
    refine w_aload_n (q := 11) aX4_tally_10 rfl rfl ?_
    refine w_get (q := 14) aX4_tally_11 f_4_7 (hm 32 (by decide) (by decide)) rfl rfl ?_
    refine w_iload_n (q := 15) aX4_tally_14 rfl rfl ?_
    refine w_lload_n (q := 16) aX4_tally_15 rfl rfl ?_
    refine w_last (q := 17) (n := j) (vs' := _) aX4_tally_16 (hm 33 (by decide) (by decide)) (rfl) (by rw [rg_len]; exact hj) (by rw [rg_len]; omega) (rg_set _ _ _ _) rfl ?_
    refine w_iconst (v := 1) (q := 18) aX4_tally_17 rfl rfl ?_
    refine w_iret aX4_tally_18 rfl ?_
    refine ⟨rfl, ⟨w, hm.up (by rw [fu_map Value.long]; rfl) (fun q h1 h2 h3 => ?_), r1, r2, r3, r4⟩, fr.rf.up (AM_l (by omega))⟩
    rcases q23 q h1 h2 with rfl | rfl | rfl | rfl | rfl | rfl | rfl | rfl | rfl | rfl | rfl | rfl | rfl | rfl | rfl | rfl | rfl | rfl | rfl | rfl | rfl | rfl | rfl <;> first | rfl | exact absurd rfl h3
  · rw [if_neg (bz_eq0 c4)]
    refine w_bipush (v := -2) (q := 9) aX4_tally_7 rfl rfl ?_
    refine w_iret aX4_tally_9 rfl ?_
    exact ⟨rfl, ⟨w, hm, r1, r2, r3, r4⟩, fr.rf⟩
theorem d_get {F : Nat} {h : mm_H} {S : St} {P : List Fr} {X : Xs} {k : Int32} (hR : RM S P X h) : mW none (F + 2) mX4_get 0 [(0, .ref 32), (1, .int k)] [] h (fun r h' => r = some (.long (p_get S k)) ∧ h = h') := by
  obtain ⟨w, hm, r1, r2, r3, r4⟩ := hR
  unfold p_get
  refine w_iload_n (q := 1) aX4_get_0 rfl rfl ?_
  refine w_callS aX4_get_1 x_4_93 t_4_93 (rfl) (d_isTally) (fun r1 h1 hp => ?_)
  obtain ⟨rfl, rfl⟩ := hp
  refine w_if_eq (t := 16) (q := 7) aX4_get_4 (by decide) rfl (fun c4 => ?_) (fun c4 => ?_)
  · rw [if_neg (bz_eq0 c4)]
    refine w_lconst (v := 0) (q := 17) aX4_get_16 rfl rfl ?_
    refine w_lret aX4_get_17 rfl ?_
    exact ⟨rfl, rfl⟩
  · have hk := bz_ne0 c4
    rw [if_pos hk]
    obtain ⟨j, hj, rfl⟩ := rN_of (by omega) hk
    rw [nI_clamp (by omega)]
    refine w_aload_n (q := 8) aX4_get_7 rfl rfl ?_
    refine w_get (q := 11) aX4_get_8 f_4_7 (hm 32 (by decide) (by decide)) rfl rfl ?_
    refine w_iload_n (q := 12) aX4_get_11 rfl rfl ?_
    refine w_lald (q := 13) aX4_get_12 (hm 33 (by decide) (by decide)) (mm_ix_at (n := j) rfl (by omega) (rg_at hj)) rfl ?_
    refine w_goto (t := 17) aX4_get_13 (by decide) ?_
    refine w_lret aX4_get_17 rfl ?_
    exact ⟨rfl, rfl⟩
end
section
theorem m12 (b k : Nat) : (12 : Int32) * nI b + nI k = nI (12 * b + k) := by
  rw [show (12 : Int32) = nI 12 from rfl, pk_mul, nI_add]
theorem pls_snoc {p : List Int32} {y x : Int32} (hn : (p ++ [y]).Nodup) : pls (p ++ [y]) x = if y = x then nI p.length else pls p x := by
  by_cases e : y = x
  · subst e
    rw [if_pos rfl]
    exact pls_at (q := []) (fun z => by rw [List.nodup_append] at hn; exact hn.2.2 _ z _ (by simp) rfl)
  · rw [if_neg e]
    unfold pls
    by_cases h : x ∈ p
    · rw [if_pos h, if_pos (by simp [h]), List.idxOf_append, if_pos h]
    · rw [if_neg h, if_neg (by simp [h]; exact fun z => e z.symm)]
theorem m_placeOf {F : Nat} {h : mm_H} {S : St} {n : Nat} {X : Xs} {w : Raw} {x : Int32} {b : Nat} (hb : b < 6) (hm : hM S n X w h) (r1 : rLn S w.1) : ∀ (q p : List Int32), sL S b = p ++ q → mW none F mX4_placeOf 5 [(4, .int (nI p.length)), (3, .int (pls p x)), (0, .ref 32), (1, .int x), (2, .int (nI b))] [] h (fun r h' => r = some (.int (pls (sL S b) x)) ∧ h = h') := by
  obtain ⟨hl12, hnd, hat⟩ := r1 b hb
  intro q
  induction q with
  | nil =>
    intro p hl
    rw [List.append_nil] at hl
    refine w_iload (q := 7) aX4_placeOf_5 rfl rfl ?_
    refine w_aload_n (q := 8) aX4_placeOf_7 rfl rfl ?_
    refine w_get (q := 11) aX4_placeOf_8 f_4_20 (hm 32 (by decide) (by decide)) rfl rfl ?_
    refine w_iload_n (q := 12) aX4_placeOf_11 rfl rfl ?_
    refine w_iald (q := 13) aX4_placeOf_12 (by decide) (hm 36 (by decide) (by decide)) (mm_ix_at (n := b) rfl (by omega) (rg_at hb)) rfl ?_
    refine w_ic_ge (t := 45) (q := 16) aX4_placeOf_13 (by decide) rfl (fun c13 => ?_) (fun c13 => ?_)
    · refine w_iload_n (q := 46) aX4_placeOf_45 rfl rfl ?_
      refine w_iret aX4_placeOf_46 rfl ?_
      exact ⟨by rw [hl], rfl⟩
    · exact absurd (by rw [hl]; exact nI_le (Nat.le_refl _) (by rw [hl] at hl12; omega)) c13
  | cons y q ih =>
    intro p hl
    have hpl : p.length < (sL S b).length := by rw [hl]; simp
    have hnd2 : (p ++ [y]).Nodup := by
      rw [hl] at hnd
      have : p ++ y :: q = (p ++ [y]) ++ q := by simp
      rw [this, List.nodup_append] at hnd
      exact hnd.1
    have k9 := ih (p ++ [y]) (by rw [hl]; simp)
    rw [pls_snoc hnd2, List.length_append] at k9
    refine w_iload (q := 7) aX4_placeOf_5 rfl rfl ?_
    refine w_aload_n (q := 8) aX4_placeOf_7 rfl rfl ?_
    refine w_get (q := 11) aX4_placeOf_8 f_4_20 (hm 32 (by decide) (by decide)) rfl rfl ?_
    refine w_iload_n (q := 12) aX4_placeOf_11 rfl rfl ?_
    refine w_iald (q := 13) aX4_placeOf_12 (by decide) (hm 36 (by decide) (by decide)) (mm_ix_at (n := b) rfl (by omega) (rg_at hb)) rfl ?_
    refine w_ic_ge (t := 45) (q := 16) aX4_placeOf_13 (by decide) rfl (fun c13 => ?_) (fun c13 => ?_)
    · exact absurd c13 (nI_ge hpl (by omega))
    · refine w_aload_n (q := 17) aX4_placeOf_16 rfl rfl ?_
      refine w_get (q := 20) aX4_placeOf_17 f_4_17 (hm 32 (by decide) (by decide)) rfl rfl ?_
      refine w_bipush (v := 12) (q := 22) aX4_placeOf_20 rfl rfl ?_
      refine w_iload_n (q := 23) aX4_placeOf_22 rfl rfl ?_
      refine w_imul (q := 24) aX4_placeOf_23 rfl ?_
      refine w_iload (q := 26) aX4_placeOf_24 rfl rfl ?_
      refine w_iadd (q := 27) aX4_placeOf_26 rfl ?_
      rw [m12]
      refine w_iald (q := 28) aX4_placeOf_27 (by decide) (hm 35 (by decide) (by decide)) (mm_ix_at (n := 12 * b + p.length) rfl (by omega) (rg_at (by omega))) rfl ?_
      rw [hat p.length y (by rw [hl]; simp)]
      refine w_iload_n (q := 29) aX4_placeOf_28 rfl rfl ?_
      refine w_ic_ne (t := 37) (q := 32) aX4_placeOf_29 (by decide) rfl (fun c29 => ?_) (fun c29 => ?_)
      · rw [if_neg c29] at k9
        refine w_iload_n (q := 38) aX4_placeOf_37 rfl rfl ?_
        refine w_istore_n (q := 39) (ls' := [(3, _), (4, _), (0, _), (1, _), (2, _)]) aX4_placeOf_38 (by decide) rfl rfl ?_
        refine w_iinc (q := 42) (ls' := [(4, _), (3, _), (0, _), (1, _), (2, _)]) aX4_placeOf_39 rfl rfl (by decide) rfl rfl ?_
        refine w_goto (t := 5) aX4_placeOf_42 (by decide) ?_
        rw [show nI p.length + Int32.ofInt 1 = nI (p.length + [y].length) from nI_1 _]
        exact k9
      · rw [if_pos c29] at k9
        refine w_iload (q := 34) aX4_placeOf_32 rfl rfl ?_
        refine w_goto (t := 38) aX4_placeOf_34 (by decide) ?_
        refine w_istore_n (q := 39) (ls' := [(3, _), (4, _), (0, _), (1, _), (2, _)]) aX4_placeOf_38 (by decide) rfl rfl ?_
        refine w_iinc (q := 42) (ls' := [(4, _), (3, _), (0, _), (1, _), (2, _)]) aX4_placeOf_39 rfl rfl (by decide) rfl rfl ?_
        refine w_goto (t := 5) aX4_placeOf_42 (by decide) ?_
        rw [show nI p.length + Int32.ofInt 1 = nI (p.length + [y].length) from nI_1 _]
        exact k9
theorem d_placeOf {F : Nat} {h : mm_H} {S : St} {n : Nat} {X : Xs} {w : Raw} {x : Int32} {b : Nat} (hb : b < 6) (hm : hM S n X w h) (r1 : rLn S w.1) : mW none F mX4_placeOf 0 [(0, .ref 32), (1, .int x), (2, .int (nI b))] [] h (fun r h' => r = some (.int (pls (sL S b) x)) ∧ h = h') := by
  refine w_iconst (v := -1) (q := 1) aX4_placeOf_0 rfl rfl ?_
  refine w_istore_n (q := 2) (ls' := [(3, _), (0, _), (1, _), (2, _)]) aX4_placeOf_1 (by decide) rfl rfl ?_
  refine w_iconst (v := 0) (q := 3) aX4_placeOf_2 rfl rfl ?_
  refine w_istore (q := 5) (ls' := [(4, _), (3, _), (0, _), (1, _), (2, _)]) aX4_placeOf_3 (by decide) rfl rfl ?_
  exact m_placeOf hb hm r1 (sL S b) [] rfl
theorem fu_len {f : Nat → List Int32} {b : Nat} {l : List Int32} : fu (fun j => Value.int (nI (f j).length)) b (.int (nI l.length)) = fun j => Value.int (nI (fu f b l j).length) := fu_map (fun z : List Int32 => Value.int (nI z.length)) f b l
theorem rLn.put {S : St} {li : Nat → Int32} {b : Nat} {x : Int32} (hb : b < 6) (hl : (sL S b).length < 12) (hx : x ∉ sL S b) (h : rLn S li) : rLn (uL S (fu (sL S) b (sL S b ++ [x]))) (fu li (12 * b + (sL S b).length) x) := by
  intro k hk
  show (fu (sL S) b (sL S b ++ [x]) k).length ≤ 12 ∧ (fu (sL S) b (sL S b ++ [x]) k).Nodup ∧ ∀ i y, (fu (sL S) b (sL S b ++ [x]) k)[i]? = some y → _
  by_cases e : k = b
  · subst e
    rw [fu_s]
    refine ⟨by simp; omega, ?_, fun i y hy => ?_⟩
    · rw [List.nodup_append]
      refine ⟨(h k hk).2.1, by simp, fun a ha c hc => ?_⟩
      rw [List.mem_singleton.mp hc]
      exact fun z => hx (z ▸ ha)
    · by_cases hi : i < (sL S k).length
      · rw [List.getElem?_append_left hi] at hy
        rw [fu_n (by omega)]
        exact (h k hk).2.2 i y hy
      · have hi2 : i = (sL S k).length := by
          have := (List.getElem?_eq_some_iff.mp hy).1
          simp at this
          omega
        subst hi2
        rw [fu_s]
        simpa using hy
  · rw [fu_n e]
    refine ⟨(h k hk).1, (h k hk).2.1, fun i y hy => ?_⟩
    have hi := (List.getElem?_eq_some_iff.mp hy).1
    have := (h k hk).1
    rw [fu_n (by omega)]
    exact (h k hk).2.2 i y hy
theorem d_put {F : Nat} {h : mm_H} {S : St} {P : List Fr} {X : Xs} {x : Int32} {b : Nat} (hb : b < 6) (hl : (sL S b).length < 12) (hx : x ∉ sL S b) (hR : RM S P X h) : mW none F mX4_put 0 [(0, .ref 32), (1, .int x), (2, .int (nI b))] [] h (fun r h' => r = none ∧ RM (uL S (fu (sL S) b (sL S b ++ [x]))) P X h' ∧ fr AM h h') := by
  obtain ⟨w, hm, r1, r2, r3, r4⟩ := hR
  refine w_aload_n (q := 1) aX4_put_0 rfl rfl ?_
  refine w_get (q := 4) aX4_put_1 f_4_17 (hm 32 (by decide) (by decide)) rfl rfl ?_
  refine w_bipush (v := 12) (q := 6) aX4_put_4 rfl rfl ?_
  refine w_iload_n (q := 7) aX4_put_6 rfl rfl ?_
  refine w_imul (q := 8) aX4_put_7 rfl ?_
  refine w_aload_n (q := 9) aX4_put_8 rfl rfl ?_
  refine w_get (q := 12) aX4_put_9 f_4_20 (hm 32 (by decide) (by decide)) rfl rfl ?_
  refine w_iload_n (q := 13) aX4_put_12 rfl rfl ?_
  refine w_iald (q := 14) aX4_put_13 (by decide) (hm 36 (by decide) (by decide)) (mm_ix_at (n := b) rfl (by omega) (rg_at hb)) rfl ?_
  refine w_iadd (q := 15) aX4_put_14 rfl ?_
  refine w_iload_n (q := 16) aX4_put_15 rfl rfl ?_
  rw [m12]
  refine w_iast (q := 17) (n := 12 * b + (sL S b).length) (vs' := _) aX4_put_16 (hm 35 (by decide) (by decide)) (rfl) (by rw [rg_len]; omega) (by rw [rg_len]; omega) (rg_set _ _ _ _) rfl ?_
  refine w_aload_n (q := 18) aX4_put_17 rfl rfl ?_
  refine w_get (q := 21) aX4_put_18 f_4_20 (hm 32 (by decide) (by decide)) rfl rfl ?_
  refine w_iload_n (q := 22) aX4_put_21 rfl rfl ?_
  refine w_dup2 (q := 23) aX4_put_22 ⟨rfl, rfl⟩ rfl ?_
  refine w_iald (q := 24) aX4_put_23 (by decide) (hm 36 (by decide) (by decide)) (mm_ix_at (n := b) rfl (by omega) (rg_at hb)) rfl ?_
  refine w_iconst (v := 1) (q := 25) aX4_put_24 rfl rfl ?_
  refine w_iadd (q := 26) aX4_put_25 rfl ?_
  refine w_iast (q := 27) (n := b) (vs' := _) aX4_put_26 (hm 36 (by decide) (by decide)) (rfl) (by rw [rg_len]; omega) (by rw [rg_len]; omega) (rg_set _ _ _ _) rfl ?_
  refine w_vret aX4_put_27 rfl ?_
  have e36 : rg 6 (fu (fun j => Value.int (nI (sL S j).length)) b (.int (nI (sL S b).length + 1))) = rg 6 (fun j => .int (nI (fu (sL S) b (sL S b ++ [x]) j).length)) := by
    rw [← fu_len, List.length_append, nI_1]
    rfl
  refine ⟨rfl, ⟨(fu w.1 (12 * b + (sL S b).length) x, w.2), ?_, r1.put hb hl hx, r2, r3, r4⟩, (fr.rf.up (AM_l (by omega))).up (AM_l (by omega))⟩
  intro q h1 h2
  rcases q23 q h1 h2 with rfl | rfl | rfl | rfl | rfl | rfl | rfl | rfl | rfl | rfl | rfl | rfl | rfl | rfl | rfl | rfl | rfl | rfl | rfl | rfl | rfl | rfl | rfl <;> first | exact hm _ h1 h2 | exact congrArg (fun z => some ((5 : Nat), z)) e36 | exact congrArg (fun z => some ((5 : Nat), rg 72 z)) (fu_map Value.int w.1 _ x) |  rfl
end
section
/-- the row of lines while a hearer is taken out of bell b: up to i it is as it will be -/
def rOut (li0 li : Nat → Int32) (b i : Nat) (p q : List Int32) (x : Int32) : Prop := (∀ t y, t < i → (p ++ q)[t]? = some y → li (12 * b + t) = y) ∧ (∀ t y, i ≤ t → (p ++ x :: q)[t]? = some y → li (12 * b + t) = y) ∧ ∀ j, ¬ (12 * b ≤ j ∧ j < 12 * b + 12) → li j = li0 j
theorem m_out {F : Nat} {S1 : St} {n : Nat} {X : Xs} {b : Nat} {p q : List Int32} {x hd : Int32} {w0 : Raw} (hb : b < 6) (hS : sL S1 b = p ++ q) (hlen : p.length + q.length < 12) : ∀ (m i : Nat) (w : Raw) (h h0 : mm_H), m + i = p.length + q.length → p.length ≤ i → hM S1 n X w h → w.2 = w0.2 → rOut w0.1 w.1 b i p q x → fr AM h0 h → mW none F mX4_out 25 [(4, .int (nI i)), (3, .int hd), (0, .ref 32), (1, .int x), (2, .int (nI b))] [] h (fun r h' => r = some (.int hd) ∧ fr AM h0 h' ∧ ∃ w' : Raw, hM S1 n X w' h' ∧ w'.2 = w0.2 ∧ rOut w0.1 w'.1 b (p.length + q.length) p q x) := by
  intro m
  induction m with
  | zero =>
    intro i w h h0 hmi hpi hm hw hr hf
    obtain rfl : i = p.length + q.length := by omega
    refine w_iload (q := 27) aX4_out_25 rfl rfl ?_
    refine w_aload_n (q := 28) aX4_out_27 rfl rfl ?_
    refine w_get (q := 31) aX4_out_28 f_4_20 (hm 32 (by decide) (by decide)) rfl rfl ?_
    refine w_iload_n (q := 32) aX4_out_31 rfl rfl ?_
    refine w_iald (q := 33) aX4_out_32 (by decide) (hm 36 (by decide) (by decide)) (mm_ix_at (n := b) rfl (by omega) (rg_at hb)) rfl ?_
    refine w_ic_ge (t := 68) (q := 36) aX4_out_33 (by decide) rfl (fun c33 => ?_) (fun c33 => ?_)
    · refine w_iload_n (q := 69) aX4_out_68 rfl rfl ?_
      refine w_iret aX4_out_69 rfl ?_
      exact ⟨rfl, hf, w, hm, hw, hr⟩
    · exact absurd (by rw [hS, List.length_append]; exact nI_le (Nat.le_refl _) (by omega)) c33
  | succ m ih =>
    intro i w h h0 hmi hpi hm hw hr hf
    refine w_iload (q := 27) aX4_out_25 rfl rfl ?_
    refine w_aload_n (q := 28) aX4_out_27 rfl rfl ?_
    refine w_get (q := 31) aX4_out_28 f_4_20 (hm 32 (by decide) (by decide)) rfl rfl ?_
    refine w_iload_n (q := 32) aX4_out_31 rfl rfl ?_
    refine w_iald (q := 33) aX4_out_32 (by decide) (hm 36 (by decide) (by decide)) (mm_ix_at (n := b) rfl (by omega) (rg_at hb)) rfl ?_
    refine w_ic_ge (t := 68) (q := 36) aX4_out_33 (by decide) rfl (fun c33 => ?_) (fun c33 => ?_)
    · exact absurd c33 (nI_ge (by rw [hS, List.length_append]; omega) (by rw [hS, List.length_append]; omega))
    · refine w_aload_n (q := 37) aX4_out_36 rfl rfl ?_
      refine w_get (q := 40) aX4_out_37 f_4_17 (hm 32 (by decide) (by decide)) rfl rfl ?_
      refine w_bipush (v := 12) (q := 42) aX4_out_40 rfl rfl ?_
      refine w_iload_n (q := 43) aX4_out_42 rfl rfl ?_
      refine w_imul (q := 44) aX4_out_43 rfl ?_
      refine w_iload (q := 46) aX4_out_44 rfl rfl ?_
      refine w_iadd (q := 47) aX4_out_46 rfl ?_
      refine w_aload_n (q := 48) aX4_out_47 rfl rfl ?_
      refine w_get (q := 51) aX4_out_48 f_4_17 (hm 32 (by decide) (by decide)) rfl rfl ?_
      refine w_bipush (v := 12) (q := 53) aX4_out_51 rfl rfl ?_
      refine w_iload_n (q := 54) aX4_out_53 rfl rfl ?_
      refine w_imul (q := 55) aX4_out_54 rfl ?_
      refine w_iload (q := 57) aX4_out_55 rfl rfl ?_
      refine w_iadd (q := 58) aX4_out_57 rfl ?_
      refine w_iconst (v := 1) (q := 59) aX4_out_58 rfl rfl ?_
      refine w_iadd (q := 60) aX4_out_59 rfl ?_
      rw [m12, nI_1]
      refine w_iald (q := 61) aX4_out_60 (by decide) (hm 35 (by decide) (by decide)) (mm_ix_at (n := 12 * b + i + 1) rfl (by omega) (rg_at (by omega))) rfl ?_
      refine w_iast (q := 62) (n := 12 * b + i) (vs' := _) aX4_out_61 (hm 35 (by decide) (by decide)) (rfl) (by rw [rg_len]; omega) (by rw [rg_len]; omega) (rg_set _ _ _ _) rfl ?_
      refine w_iinc (q := 65) (ls' := [(4, _), (3, _), (0, _), (1, _), (2, _)]) aX4_out_62 rfl rfl (by decide) rfl rfl ?_
      refine w_goto (t := 25) aX4_out_65 (by decide) ?_
      rw [show nI i + Int32.ofInt 1 = nI (i + 1) from nI_1 i]
      refine ih (i + 1) (fu w.1 (12 * b + i) (w.1 (12 * b + i + 1)), w.2) _ h0 (by omega) (by omega) (hm.up (by rw [fu_map Value.int]; rfl) (fun q h1 h2 h3 => ?_)) hw ?_ (hf.up (AM_l (by omega)))
      · rcases q23 q h1 h2 with rfl | rfl | rfl | rfl | rfl | rfl | rfl | rfl | rfl | rfl | rfl | rfl | rfl | rfl | rfl | rfl | rfl | rfl | rfl | rfl | rfl | rfl | rfl <;> first | exact absurd rfl h3 | rfl
      · obtain ⟨g1, g2, g3⟩ := hr
        have hli : (p ++ q).length = p.length + q.length := List.length_append
        refine ⟨fun t y ht hy => ?_, fun t y ht hy => ?_, fun j hj => ?_⟩
        · show fu w.1 _ _ (12 * b + t) = y
          by_cases e : t = i
          · subst e
            rw [fu_s]
            rw [show 12 * b + t + 1 = 12 * b + (t + 1) by omega]
            refine g2 (t + 1) y (by omega) ?_
            rw [List.getElem?_append_right (by omega)] at hy ⊢
            rw [show t + 1 - p.length = (t - p.length) + 1 by omega, List.getElem?_cons_succ]
            exact hy
          · rw [fu_n (by omega)]
            exact g1 t y (by omega) hy
        · show fu w.1 _ _ (12 * b + t) = y
          rw [fu_n (by omega)]
          exact g2 t y (by omega) hy
        · show fu w.1 _ _ j = w0.1 j
          rw [fu_n (by omega)]
          exact g3 j hj
theorem d_out {F : Nat} {h : mm_H} {S : St} {P : List Fr} {X : Xs} {x : Int32} {b : Nat} (hb : b < 6) (hR : RM S P X h) : mW none (F + 1) mX4_out 0 [(0, .ref 32), (1, .int x), (2, .int (nI b))] [] h (fun r h' => r = some (.int (pls (sL S b) x)) ∧ RM (uL S (fu (sL S) b ((sL S b).erase x))) P X h' ∧ fr AM h h') := by
  obtain ⟨w, hm, r1, r2, r3, r4⟩ := hR
  have hr1 := r1 b hb
  refine w_aload_n (q := 1) aX4_out_0 rfl rfl ?_
  refine w_iload_n (q := 2) aX4_out_1 rfl rfl ?_
  refine w_iload_n (q := 3) aX4_out_2 rfl rfl ?_
  refine w_callV aX4_out_3 t_4_109 (this_at rfl (hm 32 (by decide) (by decide))) (rfl) (d_placeOf hb hm r1) (fun r3 h3 hp => ?_)
  obtain ⟨rfl, rfl⟩ := hp
  refine w_istore_n (q := 7) (ls' := [(3, _), (0, _), (1, _), (2, _)]) aX4_out_6 (by decide) rfl rfl ?_
  refine w_iload_n (q := 8) aX4_out_7 rfl rfl ?_
  refine w_iconst (v := -1) (q := 9) aX4_out_8 rfl rfl ?_
  refine w_ic_eq (t := 68) (q := 12) aX4_out_9 (by decide) rfl (fun c9 => ?_) (fun c9 => ?_)
  · have hx := (pls_m1 (by omega)).mp c9
    refine w_iload_n (q := 69) aX4_out_68 rfl rfl ?_
    refine w_iret aX4_out_69 rfl ?_
    refine ⟨rfl, ?_, fr.rf⟩
    rw [List.erase_of_not_mem hx, fu_id]
    exact ⟨w, hm, r1, r2, r3, r4⟩
  · have hx : x ∈ sL S b := Classical.byContradiction fun z => c9 (pls_no z)
    obtain ⟨p, q, hl, hxp⟩ := List.eq_append_cons_of_mem hx
    have he : (sL S b).erase x = p ++ q := by rw [hl, List.erase_append_right _ hxp, List.erase_cons_head]
    have hlen : (sL S b).length = p.length + q.length + 1 := by rw [hl]; simp; omega
    rw [he]
    refine w_aload_n (q := 13) aX4_out_12 rfl rfl ?_
    refine w_get (q := 16) aX4_out_13 f_4_20 (hm 32 (by decide) (by decide)) rfl rfl ?_
    refine w_iload_n (q := 17) aX4_out_16 rfl rfl ?_
    refine w_dup2 (q := 18) aX4_out_17 ⟨rfl, rfl⟩ rfl ?_
    refine w_iald (q := 19) aX4_out_18 (by decide) (hm 36 (by decide) (by decide)) (mm_ix_at (n := b) rfl (by omega) (rg_at hb)) rfl ?_
    refine w_iconst (v := 1) (q := 20) aX4_out_19 rfl rfl ?_
    refine w_isub (q := 21) aX4_out_20 rfl ?_
    refine w_iast (q := 22) (n := b) (vs' := _) aX4_out_21 (hm 36 (by decide) (by decide)) (rfl) (by rw [rg_len]; omega) (by rw [rg_len]; omega) (rg_set _ _ _ _) rfl ?_
    refine w_iload_n (q := 23) aX4_out_22 rfl rfl ?_
    refine w_istore (q := 25) (ls' := [(4, _), (3, _), (0, _), (1, _), (2, _)]) aX4_out_23 (by decide) rfl rfl ?_
    rw [show pls (sL S b) x = nI p.length from by rw [hl]; exact pls_at hxp]
    have e36 : rg 6 (fu (fun j => Value.int (nI (sL S j).length)) b (.int (nI (sL S b).length - 1))) = rg 6 (fun j => .int (nI (fu (sL S) b (p ++ q) j).length)) := by
      rw [← fu_len, List.length_append, hlen, nI_pred]
    have hm1 : hM (uL S (fu (sL S) b (p ++ q))) P.length X w (mm_up h 36 (5, rg 6 (fu (fun j => Value.int (nI (sL S j).length)) b (.int (nI (sL S b).length - 1))))) := by
      intro q h1 h2
      rcases q23 q h1 h2 with rfl | rfl | rfl | rfl | rfl | rfl | rfl | rfl | rfl | rfl | rfl | rfl | rfl | rfl | rfl | rfl | rfl | rfl | rfl | rfl | rfl | rfl | rfl <;> first | exact hm _ h1 h2 | exact congrArg (fun z => some ((5 : Nat), z)) e36 |  rfl
    refine (m_out (S1 := uL S (fu (sL S) b (p ++ q))) (p := p) (q := q) (x := x) (hd := nI p.length) (w0 := w) hb fu_s (by omega) q.length p.length w _ h (by omega) (Nat.le_refl _) hm1 rfl ⟨fun t y ht hy => ?_, fun t y ht hy => ?_, fun j _ => rfl⟩ (fr.rf.up (AM_l (by omega)))).imp (fun r h' hk => ?_)
    · rw [List.getElem?_append_left ht] at hy
      exact hr1.2.2 t y (by rw [hl, List.getElem?_append_left ht]; exact hy)
    · exact hr1.2.2 t y (by rw [hl]; exact hy)
    · obtain ⟨rfl, hf, w', hm', hw', g1, -, g3⟩ := hk
      refine ⟨rfl, ⟨w', hm', ?_, by rw [hw']; exact r2, by rw [hw']; exact r3, ?_⟩, hf⟩
      · intro k hk
        show (fu (sL S) b (p ++ q) k).length ≤ 12 ∧ (fu (sL S) b (p ++ q) k).Nodup ∧ ∀ i y, (fu (sL S) b (p ++ q) k)[i]? = some y → _
        by_cases e : k = b
        · subst e
          rw [fu_s]
          refine ⟨by rw [List.length_append]; omega, ?_, fun i y hy => g1 i y ?_ hy⟩
          · rw [← he]
            exact hr1.2.1.erase x
          · have := (List.getElem?_eq_some_iff.mp hy).1
            rw [List.length_append] at this
            exact this
        · rw [fu_n e]
          refine ⟨(r1 k hk).1, (r1 k hk).2.1, fun i y hy => ?_⟩
          have hi := (List.getElem?_eq_some_iff.mp hy).1
          have := (r1 k hk).1
          rw [g3 (12 * k + i) (by omega)]
          exact (r1 k hk).2.2 i y hy
      · intro p9 f hp9
        have := r4 p9 f hp9
        rw [hw']
        exact this
theorem d_bind {F : Nat} {h : mm_H} {S : St} {P : List Fr} {X : Xs} {x b : Int32} (hS : sM S ≤ 40) (hR : RM S P X h) : mW none (F + 2) mX4_bind 0 [(0, .ref 32), (1, .int x), (2, .int b)] [] h (mP (p_bind S x b) P X h) := by
  obtain ⟨w, hm, r1, r2, r3, r4⟩ := hR
  unfold p_bind
  have bad : ¬ (rN (sM S) x ∧ rN 6 b) → mW none (F + 2) mX4_bind 15 [(0, .ref 32), (1, .int x), (2, .int b)] [] h (mP (if rN (sM S) x ∧ rN 6 b then (if x ∈ sL S b.toNatClampNeg then (-1, S) else if (sL S b.toNatClampNeg).length = 12 then (-3, S) else (nI (sL S b.toNatClampNeg).length, uL S (fu (sL S) b.toNatClampNeg (sL S b.toNatClampNeg ++ [x])))) else (-2, S)) P X h) := fun hn => by
    rw [if_neg hn]
    refine w_bipush (v := -2) (q := 17) aX4_bind_15 rfl rfl ?_
    refine w_iret aX4_bind_17 rfl ?_
    exact ⟨rfl, ⟨w, hm, r1, r2, r3, r4⟩, fr.rf⟩
  refine w_aload_n (q := 1) aX4_bind_0 rfl rfl ?_
  refine w_iload_n (q := 2) aX4_bind_1 rfl rfl ?_
  refine w_callV aX4_bind_2 t_4_106 (this_at rfl (hm 32 (by decide) (by decide))) (rfl) (d_isHearer hS hm) (fun r2 h2 hp => ?_)
  obtain ⟨rfl, rfl⟩ := hp
  refine w_if_eq (t := 15) (q := 8) aX4_bind_5 (by decide) rfl (fun c5 => ?_) (fun c5 => ?_)
  · exact bad (fun z => bz_eq0 c5 z.1)
  · refine w_iload_n (q := 9) aX4_bind_8 rfl rfl ?_
    refine w_callS aX4_bind_9 x_4_97 t_4_97 (rfl) (d_isBell) (fun r9 h9 hp => ?_)
    obtain ⟨rfl, rfl⟩ := hp
    refine w_if_ne (t := 18) (q := 15) aX4_bind_12 (by decide) rfl (fun c12 => ?_) (fun c12 => ?_)
    · have hx := bz_ne0 c5
      have hb := bz_ne0 c12
      rw [if_pos ⟨hx, hb⟩]
      obtain ⟨j, hj, rfl⟩ := rN_of (by omega) hb
      rw [nI_clamp (by omega)]
      have hr1 := r1 j hj
      refine w_aload_n (q := 19) aX4_bind_18 rfl rfl ?_
      refine w_iload_n (q := 20) aX4_bind_19 rfl rfl ?_
      refine w_iload_n (q := 21) aX4_bind_20 rfl rfl ?_
      refine w_callV aX4_bind_21 t_4_109 (this_at rfl (hm 32 (by decide) (by decide))) (rfl) (d_placeOf hj hm r1) (fun r21 h21 hp => ?_)
      obtain ⟨rfl, rfl⟩ := hp
      refine w_iconst (v := -1) (q := 25) aX4_bind_24 rfl rfl ?_
      refine w_ic_eq (t := 30) (q := 28) aX4_bind_25 (by decide) rfl (fun c25 => ?_) (fun c25 => ?_)
      · have hnx := (pls_m1 (by omega)).mp c25
        rw [if_neg hnx]
        refine w_aload_n (q := 31) aX4_bind_30 rfl rfl ?_
        refine w_get (q := 34) aX4_bind_31 f_4_20 (hm 32 (by decide) (by decide)) rfl rfl ?_
        refine w_iload_n (q := 35) aX4_bind_34 rfl rfl ?_
        refine w_iald (q := 36) aX4_bind_35 (by decide) (hm 36 (by decide) (by decide)) (mm_ix_at (n := j) rfl (by omega) (rg_at hj)) rfl ?_
        refine w_bipush (v := 12) (q := 38) aX4_bind_36 rfl rfl ?_
        refine w_ic_ne (t := 44) (q := 41) aX4_bind_38 (by decide) rfl (fun c38 => ?_) (fun c38 => ?_)
        · have hl : (sL S j).length < 12 := by
            rcases Nat.lt_or_ge (sL S j).length 12 with z | z
            · exact z
            · exact absurd (by rw [show (sL S j).length = 12 by omega]; rfl) c38
          rw [if_neg (by omega)]
          refine w_aload_n (q := 45) aX4_bind_44 rfl rfl ?_
          refine w_iload_n (q := 46) aX4_bind_45 rfl rfl ?_
          refine w_iload_n (q := 47) aX4_bind_46 rfl rfl ?_
          refine w_callV aX4_bind_47 t_4_113 (this_at rfl (hm 32 (by decide) (by decide))) (rfl) (d_put hj hl hnx ⟨w, hm, r1, r2, r3, r4⟩) (fun r47 h47 hp => ?_)
          obtain ⟨rfl, ⟨w', hm', s1, s2, s3, s4⟩, hf⟩ := hp
          refine w_aload_n (q := 51) aX4_bind_50 rfl rfl ?_
          refine w_get (q := 54) aX4_bind_51 f_4_20 (hm' 32 (by decide) (by decide)) rfl rfl ?_
          refine w_iload_n (q := 55) aX4_bind_54 rfl rfl ?_
          refine w_iald (q := 56) aX4_bind_55 (by decide) (hm' 36 (by decide) (by decide)) (mm_ix_at (n := j) rfl (by omega) (rg_at hj)) rfl ?_
          refine w_iconst (v := 1) (q := 57) aX4_bind_56 rfl rfl ?_
          refine w_isub (q := 58) aX4_bind_57 rfl ?_
          refine w_iret aX4_bind_58 rfl ?_
          refine ⟨?_, ⟨w', hm', s1, s2, s3, s4⟩, hf⟩
          show some (Value.int (nI (fu (sL S) j (sL S j ++ [x]) j).length - 1)) = _
          rw [fu_s, List.length_append]
          exact congrArg (fun z => some (Value.int z)) (nI_pred _)
        · have hl : (sL S j).length = 12 := (nI_eq (b := 12) (by omega) (by omega)).mp c38
          rw [if_pos hl]
          refine w_bipush (v := -3) (q := 43) aX4_bind_41 rfl rfl ?_
          refine w_iret aX4_bind_43 rfl ?_
          exact ⟨rfl, ⟨w, hm, r1, r2, r3, r4⟩, fr.rf⟩
      · have hin : x ∈ sL S j := Classical.byContradiction fun z => c25 (pls_no z)
        rw [if_pos hin]
        refine w_iconst (v := -1) (q := 29) aX4_bind_28 rfl rfl ?_
        refine w_iret aX4_bind_29 rfl ?_
        exact ⟨rfl, ⟨w, hm, r1, r2, r3, r4⟩, fr.rf⟩
    · exact bad (fun z => bz_eq0 c12 z.2)
theorem d_leave {F : Nat} {h : mm_H} {S : St} {P : List Fr} {X : Xs} {x b : Int32} (hS : sM S ≤ 40) (hR : RM S P X h) : mW none (F + 2) mX4_leave 0 [(0, .ref 32), (1, .int x), (2, .int b)] [] h (mP (p_leave S x b) P X h) := by
  have hR0 := hR
  obtain ⟨w, hm, -⟩ := hR
  unfold p_leave
  have bad : ¬ (rN (sM S) x ∧ rN 6 b) → mW none (F + 2) mX4_leave 24 [(0, .ref 32), (1, .int x), (2, .int b)] [] h (mP (if rN (sM S) x ∧ rN 6 b then (pls (sL S b.toNatClampNeg) x, uL S (fu (sL S) b.toNatClampNeg ((sL S b.toNatClampNeg).erase x))) else (-2, S)) P X h) := fun hn => by
    rw [if_neg hn]
    refine w_bipush (v := -2) (q := 26) aX4_leave_24 rfl rfl ?_
    refine w_iret aX4_leave_26 rfl ?_
    exact ⟨rfl, hR0, fr.rf⟩
  refine w_aload_n (q := 1) aX4_leave_0 rfl rfl ?_
  refine w_iload_n (q := 2) aX4_leave_1 rfl rfl ?_
  refine w_callV aX4_leave_2 t_4_106 (this_at rfl (hm 32 (by decide) (by decide))) (rfl) (d_isHearer hS hm) (fun r2 h2 hp => ?_)
  obtain ⟨rfl, rfl⟩ := hp
  refine w_if_eq (t := 24) (q := 8) aX4_leave_5 (by decide) rfl (fun c5 => ?_) (fun c5 => ?_)
  · exact bad (fun z => bz_eq0 c5 z.1)
  · refine w_iload_n (q := 9) aX4_leave_8 rfl rfl ?_
    refine w_callS aX4_leave_9 x_4_97 t_4_97 (rfl) (d_isBell) (fun r9 h9 hp => ?_)
    obtain ⟨rfl, rfl⟩ := hp
    refine w_if_eq (t := 24) (q := 15) aX4_leave_12 (by decide) rfl (fun c12 => ?_) (fun c12 => ?_)
    · exact bad (fun z => bz_eq0 c12 z.2)
    · have hx := bz_ne0 c5
      have hb := bz_ne0 c12
      rw [if_pos ⟨hx, hb⟩]
      obtain ⟨j, hj, rfl⟩ := rN_of (by omega) hb
      rw [nI_clamp (by omega)]
      refine w_aload_n (q := 16) aX4_leave_15 rfl rfl ?_
      refine w_iload_n (q := 17) aX4_leave_16 rfl rfl ?_
      refine w_iload_n (q := 18) aX4_leave_17 rfl rfl ?_
      refine w_callV aX4_leave_18 t_4_117 (this_at rfl (hm 32 (by decide) (by decide))) (rfl) (d_out hj hR0) (fun r18 h18 hp => ?_)
      obtain ⟨rfl, hR2, hf⟩ := hp
      refine w_goto (t := 26) aX4_leave_21 (by decide) ?_
      refine w_iret aX4_leave_26 rfl ?_
      exact ⟨rfl, hR2, hf⟩
end
section
theorem fu_if {α : Type} {g : α → Int32} {f : Nat → α} {m j : Nat} {x : α} (hj : j < m) : fu (fun i => Value.int (if i < m then g (f i) else 0)) j (.int (g x)) = fun i => Value.int (if i < m then g (fu f j x i) else 0) := by
  funext i
  unfold fu
  by_cases e : i = j
  · subst e
    simp [hj]
  · simp [e]
theorem fu_new {α : Type} {g : α → Int32} {f : Nat → α} {m : Nat} {x : α} : fu (fun i => Value.int (if i < m then g (f i) else 0)) m (.int (g x)) = fun i => Value.int (if i < m + 1 then g (fu f m x i) else 0) := by
  funext i
  unfold fu
  by_cases e : i = m
  · subst e
    simp
  · by_cases h : i < m
    · simp [e, h, show i < m + 1 by omega]
    · simp [e, h, show ¬ i < m + 1 by omega]
theorem fu_newL {α : Type} {g : α → Int64} {f : Nat → α} {m : Nat} {x : α} : fu (fun i => Value.long (if i < m then g (f i) else 0)) m (.long (g x)) = fun i => Value.long (if i < m + 1 then g (fu f m x i) else 0) := by
  funext i
  unfold fu
  by_cases e : i = m
  · subst e
    simp
  · by_cases h : i < m
    · simp [e, h, show i < m + 1 by omega]
    · simp [e, h, show ¬ i < m + 1 by omega]
theorem oI_m1 {o : Option Nat} (h : ∀ k, o = some k → k < 2 ^ 31) : oI o = -1 ↔ o = none := by
  cases o with
  | none => exact ⟨fun _ => rfl, fun _ => rfl⟩
  | some k =>
    refine ⟨fun e => ?_, fun e => by cases e⟩
    have e' : nI k = -1 := e
    have := nI_pos (n := k) (h k rfl)
    rw [e'] at this
    exact absurd (by decide) this
theorem d_take {F : Nat} {h : mm_H} {S : St} {P : List Fr} {X : Xs} {x : Int32} (ho : Ok S) (hR : RM S P X h) : mW none (F + 2) mX4_take 0 [(0, .ref 32), (1, .int x)] [] h (mP (p_take S x) P X h) := by
  obtain ⟨w, hm, r1, r2, r3, r4⟩ := hR
  have hS := ho.1
  unfold p_take
  refine w_aload_n (q := 1) aX4_take_0 rfl rfl ?_
  refine w_iload_n (q := 2) aX4_take_1 rfl rfl ?_
  refine w_callV aX4_take_2 t_4_106 (this_at rfl (hm 32 (by decide) (by decide))) (rfl) (d_isHearer hS hm) (fun r2 h2 hp => ?_)
  obtain ⟨rfl, rfl⟩ := hp
  refine w_if_ne (t := 11) (q := 8) aX4_take_5 (by decide) rfl (fun c5 => ?_) (fun c5 => ?_)
  · have hx := bz_ne0 c5
    rw [if_pos hx]
    obtain ⟨j, hj, rfl⟩ := rN_of (by omega) hx
    rw [nI_clamp (by omega)]
    have hoi := oI_m1 (o := sH S j) (fun k hk => by have := ho.2.1 j k hk; omega)
    have fin : ∀ y : Int32, y = (if sH S j = none then 0 else 1) → mW none (F + 2) mX4_take 26 [(0, .ref 32), (1, .int (nI j))] [.int y] h (mP ((if sH S j = none then 0 else 1), uH S (fu (sH S) j none)) P X h) := fun y hy => by
      refine w_istore_n (q := 27) (ls' := [(2, _), (0, _), (1, _)]) aX4_take_26 (by decide) rfl rfl ?_
      refine w_aload_n (q := 28) aX4_take_27 rfl rfl ?_
      refine w_get (q := 31) aX4_take_28 f_4_47 (hm 32 (by decide) (by decide)) rfl rfl ?_
      refine w_iload_n (q := 32) aX4_take_31 rfl rfl ?_
      refine w_iconst (v := -1) (q := 33) aX4_take_32 rfl rfl ?_
      refine w_iast (q := 34) (n := j) (vs' := _) aX4_take_33 (hm 45 (by decide) (by decide)) (rfl) (by rw [rg_len]; omega) (by rw [rg_len]; omega) (rg_set _ _ _ _) rfl ?_
      refine w_iload_n (q := 35) aX4_take_34 rfl rfl ?_
      refine w_iret aX4_take_35 rfl ?_
      refine ⟨by rw [hy], ⟨w, hm.up (S' := uH S (fu (sH S) j none)) (congrArg (fun z => ((5 : Nat), rg 40 z)) (fu_if (g := oI) (x := none) hj)) (fun q h1 h2 h3 => ?_), r1, r2, r3, r4⟩, fr.rf.up (AM_l (by omega))⟩
      rcases q23 q h1 h2 with rfl | rfl | rfl | rfl | rfl | rfl | rfl | rfl | rfl | rfl | rfl | rfl | rfl | rfl | rfl | rfl | rfl | rfl | rfl | rfl | rfl | rfl | rfl <;> first | exact absurd rfl h3 | rfl
    refine w_aload_n (q := 12) aX4_take_11 rfl rfl ?_
    refine w_get (q := 15) aX4_take_12 f_4_47 (hm 32 (by decide) (by decide)) rfl rfl ?_
    refine w_iload_n (q := 16) aX4_take_15 rfl rfl ?_
    refine w_iald (q := 17) aX4_take_16 (by decide) (hm 45 (by decide) (by decide)) (mm_ix_at (n := j) rfl (by omega) (rg_at (by omega))) rfl ?_
    rw [if_pos hj]
    refine w_iconst (v := -1) (q := 18) aX4_take_17 rfl rfl ?_
    refine w_ic_ne (t := 25) (q := 21) aX4_take_18 (by decide) rfl (fun c18 => ?_) (fun c18 => ?_)
    · refine w_iconst (v := 1) (q := 26) aX4_take_25 rfl rfl ?_
      exact fin 1 (by rw [if_neg (fun z => c18 (hoi.mpr z))])
    · refine w_iconst (v := 0) (q := 22) aX4_take_21 rfl rfl ?_
      refine w_goto (t := 26) aX4_take_22 (by decide) ?_
      exact fin 0 (by rw [if_pos (hoi.mp c18)])
  · rw [if_neg (bz_eq0 c5)]
    refine w_bipush (v := -2) (q := 10) aX4_take_8 rfl rfl ?_
    refine w_iret aX4_take_10 rfl ?_
    exact ⟨rfl, ⟨w, hm, r1, r2, r3, r4⟩, fr.rf⟩
theorem d_lend {F : Nat} {h : mm_H} {S : St} {P : List Fr} {X : Xs} {x y : Int32} (hS : sM S ≤ 40) (hR : RM S P X h) : mW none (F + 2) mX4_lend 0 [(0, .ref 32), (1, .int x), (2, .int y)] [] h (mP (p_lend S x y) P X h) := by
  obtain ⟨w, hm, r1, r2, r3, r4⟩ := hR
  unfold p_lend
  have bad : ¬ (rN (sM S) x ∧ rN (sM S) y) → mW none (F + 2) mX4_lend 16 [(0, .ref 32), (1, .int x), (2, .int y)] [] h (mP (if rN (sM S) x ∧ rN (sM S) y then (1, uH S (fu (sH S) x.toNatClampNeg (sH S y.toNatClampNeg))) else (-2, S)) P X h) := fun hn => by
    rw [if_neg hn]
    refine w_bipush (v := -2) (q := 18) aX4_lend_16 rfl rfl ?_
    refine w_iret aX4_lend_18 rfl ?_
    exact ⟨rfl, ⟨w, hm, r1, r2, r3, r4⟩, fr.rf⟩
  refine w_aload_n (q := 1) aX4_lend_0 rfl rfl ?_
  refine w_iload_n (q := 2) aX4_lend_1 rfl rfl ?_
  refine w_callV aX4_lend_2 t_4_106 (this_at rfl (hm 32 (by decide) (by decide))) (rfl) (d_isHearer hS hm) (fun r2 h2 hp => ?_)
  obtain ⟨rfl, rfl⟩ := hp
  refine w_if_eq (t := 16) (q := 8) aX4_lend_5 (by decide) rfl (fun c5 => ?_) (fun c5 => ?_)
  · exact bad (fun z => bz_eq0 c5 z.1)
  · refine w_aload_n (q := 9) aX4_lend_8 rfl rfl ?_
    refine w_iload_n (q := 10) aX4_lend_9 rfl rfl ?_
    refine w_callV aX4_lend_10 t_4_106 (this_at rfl (hm 32 (by decide) (by decide))) (rfl) (d_isHearer hS hm) (fun r10 h10 hp => ?_)
    obtain ⟨rfl, rfl⟩ := hp
    refine w_if_ne (t := 19) (q := 16) aX4_lend_13 (by decide) rfl (fun c13 => ?_) (fun c13 => ?_)
    · have hx := bz_ne0 c5
      have hy := bz_ne0 c13
      rw [if_pos ⟨hx, hy⟩]
      obtain ⟨j, hj, rfl⟩ := rN_of (by omega) hx
      obtain ⟨i, hi, rfl⟩ := rN_of (by omega) hy
      rw [nI_clamp (by omega), nI_clamp (by omega)]
      refine w_aload_n (q := 20) aX4_lend_19 rfl rfl ?_
      refine w_get (q := 23) aX4_lend_20 f_4_47 (hm 32 (by decide) (by decide)) rfl rfl ?_
      refine w_iload_n (q := 24) aX4_lend_23 rfl rfl ?_
      refine w_aload_n (q := 25) aX4_lend_24 rfl rfl ?_
      refine w_get (q := 28) aX4_lend_25 f_4_47 (hm 32 (by decide) (by decide)) rfl rfl ?_
      refine w_iload_n (q := 29) aX4_lend_28 rfl rfl ?_
      refine w_iald (q := 30) aX4_lend_29 (by decide) (hm 45 (by decide) (by decide)) (mm_ix_at (n := i) rfl (by omega) (rg_at (by omega))) rfl ?_
      rw [if_pos hi]
      refine w_iast (q := 31) (n := j) (vs' := _) aX4_lend_30 (hm 45 (by decide) (by decide)) (rfl) (by rw [rg_len]; omega) (by rw [rg_len]; omega) (rg_set _ _ _ _) rfl ?_
      refine w_iconst (v := 1) (q := 32) aX4_lend_31 rfl rfl ?_
      refine w_iret aX4_lend_32 rfl ?_
      refine ⟨rfl, ⟨w, hm.up (S' := uH S (fu (sH S) j (sH S i))) (congrArg (fun z => ((5 : Nat), rg 40 z)) (fu_if (g := oI) (x := sH S i) hj)) (fun q h1 h2 h3 => ?_), r1, r2, r3, r4⟩, fr.rf.up (AM_l (by omega))⟩
      rcases q23 q h1 h2 with rfl | rfl | rfl | rfl | rfl | rfl | rfl | rfl | rfl | rfl | rfl | rfl | rfl | rfl | rfl | rfl | rfl | rfl | rfl | rfl | rfl | rfl | rfl <;> first | exact absurd rfl h3 | rfl
    · exact bad (fun z => bz_eq0 c13 z.2)
theorem in01 {x : Int32} : (¬ x.toInt64 < 0 ∧ x.toInt64 ≤ 1) ↔ (x = 0 ∨ x = 1) := by
  rw [in_rN (n := 2) (by omega) (by decide)]
  constructor
  · intro h
    obtain ⟨j, hj, rfl⟩ := rN_of (by omega) h
    have : j = 0 ∨ j = 1 := by omega
    rcases this with rfl | rfl
    · exact Or.inl rfl
    · exact Or.inr rfl
  · rintro (rfl | rfl) <;> decide
theorem d_way {F : Nat} {h : mm_H} {S : St} {P : List Fr} {X : Xs} {b v : Int32} (hR : RM S P X h) : mW none (F + 2) mX4_way 0 [(0, .ref 32), (1, .int b), (2, .int v)] [] h (mP (p_way S b v) P X h) := by
  obtain ⟨w, hm, r1, r2, r3, r4⟩ := hR
  unfold p_way
  have bad : ¬ (rN 6 b ∧ (v = 0 ∨ v = 1)) → mW none (F + 2) mX4_way 17 [(0, .ref 32), (1, .int b), (2, .int v)] [] h (mP (if rN 6 b ∧ (v = 0 ∨ v = 1) then (sW S b.toNatClampNeg, uW S (fu (sW S) b.toNatClampNeg v)) else (-2, S)) P X h) := fun hn => by
    rw [if_neg hn]
    refine w_bipush (v := -2) (q := 19) aX4_way_17 rfl rfl ?_
    refine w_iret aX4_way_19 rfl ?_
    exact ⟨rfl, ⟨w, hm, r1, r2, r3, r4⟩, fr.rf⟩
  refine w_iload_n (q := 1) aX4_way_0 rfl rfl ?_
  refine w_callS aX4_way_1 x_4_97 t_4_97 (rfl) (d_isBell) (fun r1 h1 hp => ?_)
  obtain ⟨rfl, rfl⟩ := hp
  refine w_if_eq (t := 17) (q := 7) aX4_way_4 (by decide) rfl (fun c4 => ?_) (fun c4 => ?_)
  · exact bad (fun z => bz_eq0 c4 z.1)
  · refine w_iload_n (q := 8) aX4_way_7 rfl rfl ?_
    refine w_i2l (q := 9) aX4_way_8 rfl ?_
    refine w_lconst (v := 0) (q := 10) aX4_way_9 rfl rfl ?_
    refine w_lconst (v := 1) (q := 11) aX4_way_10 rfl rfl ?_
    refine w_callS aX4_way_11 x_4_85 t_4_85 (rfl) (d_in) (fun r11 h11 hp => ?_)
    obtain ⟨rfl, rfl⟩ := hp
    refine w_if_ne (t := 20) (q := 17) aX4_way_14 (by decide) rfl (fun c14 => ?_) (fun c14 => ?_)
    · have hb := bz_ne0 c4
      have hv := in01.mp (bz_ne0 c14)
      rw [if_pos ⟨hb, hv⟩]
      obtain ⟨j, hj, rfl⟩ := rN_of (by omega) hb
      rw [nI_clamp (by omega)]
      refine w_aload_n (q := 21) aX4_way_20 rfl rfl ?_
      refine w_get (q := 24) aX4_way_21 f_4_13 (hm 32 (by decide) (by decide)) rfl rfl ?_
      refine w_iload_n (q := 25) aX4_way_24 rfl rfl ?_
      refine w_iald (q := 26) aX4_way_25 (by decide) (hm 34 (by decide) (by decide)) (mm_ix_at (n := j) rfl (by omega) (rg_at hj)) rfl ?_
      refine w_istore_n (q := 27) (ls' := [(3, _), (0, _), (1, _), (2, _)]) aX4_way_26 (by decide) rfl rfl ?_
      refine w_aload_n (q := 28) aX4_way_27 rfl rfl ?_
      refine w_get (q := 31) aX4_way_28 f_4_13 (hm 32 (by decide) (by decide)) rfl rfl ?_
      refine w_iload_n (q := 32) aX4_way_31 rfl rfl ?_
      refine w_iload_n (q := 33) aX4_way_32 rfl rfl ?_
      refine w_iast (q := 34) (n := j) (vs' := _) aX4_way_33 (hm 34 (by decide) (by decide)) (rfl) (by rw [rg_len]; omega) (by rw [rg_len]; omega) (rg_set _ _ _ _) rfl ?_
      refine w_iload_n (q := 35) aX4_way_34 rfl rfl ?_
      refine w_iret aX4_way_35 rfl ?_
      refine ⟨rfl, ⟨w, hm.up (S' := uW S (fu (sW S) j v)) (congrArg (fun z => ((5 : Nat), rg 6 z)) (fu_map Value.int (sW S) j v)) (fun q h1 h2 h3 => ?_), r1, r2, r3, r4⟩, fr.rf.up (AM_l (by omega))⟩
      rcases q23 q h1 h2 with rfl | rfl | rfl | rfl | rfl | rfl | rfl | rfl | rfl | rfl | rfl | rfl | rfl | rfl | rfl | rfl | rfl | rfl | rfl | rfl | rfl | rfl | rfl <;> first | exact absurd rfl h3 | rfl
    · exact bad (fun z => bz_eq0 c14 (in01.mpr z.2))
theorem d_line {F : Nat} {h : mm_H} {S : St} {P : List Fr} {X : Xs} {b x : Int32} (hR : RM S P X h) : mW none (F + 2) mX4_line 0 [(0, .ref 32), (1, .int b), (2, .int x)] [] h (fun r h' => r = some (.int (p_line S b x)) ∧ h = h') := by
  obtain ⟨w, hm, r1, r2, r3, r4⟩ := hR
  unfold p_line
  refine w_iload_n (q := 1) aX4_line_0 rfl rfl ?_
  refine w_callS aX4_line_1 x_4_97 t_4_97 (rfl) (d_isBell) (fun r1 h1 hp => ?_)
  obtain ⟨rfl, rfl⟩ := hp
  refine w_if_ne (t := 10) (q := 7) aX4_line_4 (by decide) rfl (fun c4 => ?_) (fun c4 => ?_)
  · have hb := bz_ne0 c4
    rw [if_pos hb]
    obtain ⟨j, hj, rfl⟩ := rN_of (by omega) hb
    rw [nI_clamp (by omega)]
    have hr1 := r1 j hj
    refine w_iload_n (q := 11) aX4_line_10 rfl rfl ?_
    refine w_i2l (q := 12) aX4_line_11 rfl ?_
    refine w_lconst (v := 0) (q := 13) aX4_line_12 rfl rfl ?_
    refine w_aload_n (q := 14) aX4_line_13 rfl rfl ?_
    refine w_get (q := 17) aX4_line_14 f_4_20 (hm 32 (by decide) (by decide)) rfl rfl ?_
    refine w_iload_n (q := 18) aX4_line_17 rfl rfl ?_
    refine w_iald (q := 19) aX4_line_18 (by decide) (hm 36 (by decide) (by decide)) (mm_ix_at (n := j) rfl (by omega) (rg_at hj)) rfl ?_
    refine w_iconst (v := 1) (q := 20) aX4_line_19 rfl rfl ?_
    refine w_isub (q := 21) aX4_line_20 rfl ?_
    refine w_i2l (q := 22) aX4_line_21 rfl ?_
    refine w_callS aX4_line_22 x_4_85 t_4_85 (rfl) (d_in) (fun r22 h22 hp => ?_)
    obtain ⟨rfl, rfl⟩ := hp
    have hin := in_rN (x := x) (n := (sL S j).length) (by omega) (nIm1 (by omega))
    refine w_if_eq (t := 42) (q := 28) aX4_line_25 (by decide) rfl (fun c25 => ?_) (fun c25 => ?_)
    · have hn : ¬ rN (sL S j).length x := fun z => bz_eq0 c25 (hin.mpr z)
      refine w_iconst (v := -1) (q := 43) aX4_line_42 rfl rfl ?_
      refine w_iret aX4_line_43 rfl ?_
      refine ⟨?_, rfl⟩
      by_cases h0 : x < 0
      · rw [if_pos h0]
      · rw [if_neg h0]
        obtain ⟨i, hi, rfl⟩ := nI_of h0
        have : ¬ i < (sL S j).length := fun z => hn (rN_nI (by omega) z)
        rw [nI_clamp hi, List.getElem?_eq_none (by omega)]
        rfl
    · obtain ⟨i, hi, rfl⟩ := rN_of (by omega) (hin.mp (bz_ne0 c25))
      refine w_aload_n (q := 29) aX4_line_28 rfl rfl ?_
      refine w_get (q := 32) aX4_line_29 f_4_17 (hm 32 (by decide) (by decide)) rfl rfl ?_
      refine w_bipush (v := 12) (q := 34) aX4_line_32 rfl rfl ?_
      refine w_iload_n (q := 35) aX4_line_34 rfl rfl ?_
      refine w_imul (q := 36) aX4_line_35 rfl ?_
      refine w_iload_n (q := 37) aX4_line_36 rfl rfl ?_
      refine w_iadd (q := 38) aX4_line_37 rfl ?_
      rw [m12]
      refine w_iald (q := 39) aX4_line_38 (by decide) (hm 35 (by decide) (by decide)) (mm_ix_at (n := 12 * j + i) rfl (by omega) (rg_at (by omega))) rfl ?_
      refine w_goto (t := 43) aX4_line_39 (by decide) ?_
      refine w_iret aX4_line_43 rfl ?_
      refine ⟨?_, rfl⟩
      rw [if_neg (nI_pos (by omega)), nI_clamp (by omega), List.getElem?_eq_getElem hi, hr1.2.2 i _ (List.getElem?_eq_getElem hi)]
      rfl
  · rw [if_neg (bz_eq0 c4)]
    refine w_bipush (v := -2) (q := 9) aX4_line_7 rfl rfl ?_
    refine w_iret aX4_line_9 rfl ?_
    exact ⟨rfl, rfl⟩
theorem d_queued {F : Nat} {h : mm_H} {S : St} {P : List Fr} {X : Xs} {x : Int32} (hR : RM S P X h) : mW none (F + 2) mX4_queued 0 [(0, .ref 32), (1, .int x)] [] h (fun r h' => r = some (.int (p_queued S x)) ∧ h = h') := by
  obtain ⟨w, hm, r1, r2, r3, r4⟩ := hR
  have hl := r3.1
  unfold p_queued
  have hin := in_rN (x := x) (n := (sQ S).length) (by omega) (nIm1 (by omega))
  refine w_iload_n (q := 1) aX4_queued_0 rfl rfl ?_
  refine w_i2l (q := 2) aX4_queued_1 rfl ?_
  refine w_lconst (v := 0) (q := 3) aX4_queued_2 rfl rfl ?_
  refine w_aload_n (q := 4) aX4_queued_3 rfl rfl ?_
  refine w_get (q := 7) aX4_queued_4 f_4_147 (hm 32 (by decide) (by decide)) rfl rfl ?_
  refine w_iconst (v := 1) (q := 8) aX4_queued_7 rfl rfl ?_
  refine w_isub (q := 9) aX4_queued_8 rfl ?_
  refine w_i2l (q := 10) aX4_queued_9 rfl ?_
  refine w_callS aX4_queued_10 x_4_85 t_4_85 (rfl) (d_in) (fun r10 h10 hp => ?_)
  obtain ⟨rfl, rfl⟩ := hp
  refine w_if_eq (t := 25) (q := 16) aX4_queued_13 (by decide) rfl (fun c13 => ?_) (fun c13 => ?_)
  · have hn : ¬ rN (sQ S).length x := fun z => bz_eq0 c13 (hin.mpr z)
    refine w_iconst (v := -1) (q := 26) aX4_queued_25 rfl rfl ?_
    refine w_iret aX4_queued_26 rfl ?_
    refine ⟨?_, rfl⟩
    by_cases h0 : x < 0
    · rw [if_pos h0]
    · rw [if_neg h0]
      obtain ⟨i, hi, rfl⟩ := nI_of h0
      have : ¬ i < (sQ S).length := fun z => hn (rN_nI (by omega) z)
      rw [nI_clamp hi, List.getElem?_eq_none (by omega)]
      rfl
  · obtain ⟨i, hi, rfl⟩ := rN_of (by omega) (hin.mp (bz_ne0 c13))
    refine w_aload_n (q := 17) aX4_queued_16 rfl rfl ?_
    refine w_get (q := 20) aX4_queued_17 f_4_50 (hm 32 (by decide) (by decide)) rfl rfl ?_
    refine w_iload_n (q := 21) aX4_queued_20 rfl rfl ?_
    refine w_iald (q := 22) aX4_queued_21 (by decide) (hm 46 (by decide) (by decide)) (mm_ix_at (n := i) rfl (by omega) (rg_at (by omega))) rfl ?_
    refine w_goto (t := 26) aX4_queued_22 (by decide) ?_
    refine w_iret aX4_queued_26 rfl ?_
    refine ⟨?_, rfl⟩
    rw [if_neg (nI_pos (by omega)), nI_clamp (by omega), List.getElem?_eq_getElem hi, (r3.2 i _ (List.getElem?_eq_getElem hi)).1]
    rfl
theorem d_count {F : Nat} {h : mm_H} {S : St} {P : List Fr} {X : Xs} {x : Int32} (hR : RM S P X h) : mW none (F + 2) mX4_count 0 [(0, .ref 32), (1, .int x)] [] h (fun r h' => r = some (.int (p_count S x)) ∧ h = h') := by
  obtain ⟨w, hm, r1, r2, r3, r4⟩ := hR
  unfold p_count
  have hin := in_rN (x := x) (n := 10) (b := 9) (by omega) (by decide)
  refine w_iload_n (q := 1) aX4_count_0 rfl rfl ?_
  refine w_i2l (q := 2) aX4_count_1 rfl ?_
  refine w_lconst (v := 0) (q := 3) aX4_count_2 rfl rfl ?_
  refine w_ldc (q := 6) aX4_count_3 l_4_182 rfl ?_
  refine w_callS aX4_count_6 x_4_85 t_4_85 (rfl) (d_in) (fun r6 h6 hp => ?_)
  obtain ⟨rfl, rfl⟩ := hp
  refine w_if_ne (t := 15) (q := 12) aX4_count_9 (by decide) rfl (fun c9 => ?_) (fun c9 => ?_)
  · have hx := hin.mp (bz_ne0 c9)
    rw [if_pos hx]
    obtain ⟨i, hi, rfl⟩ := rN_of (by omega) hx
    refine w_iload_n (q := 16) aX4_count_15 rfl rfl ?_
    refine w_bipush (v := 7) (q := 18) aX4_count_16 rfl rfl ?_
    refine w_ic_ne (t := 28) (q := 21) aX4_count_18 (by decide) rfl (fun c18 => ?_) (fun c18 => ?_)
    · refine w_aload_n (q := 29) aX4_count_28 rfl rfl ?_
      refine w_get (q := 32) aX4_count_29 f_4_74 (hm 32 (by decide) (by decide)) rfl rfl ?_
      refine w_iload_n (q := 33) aX4_count_32 rfl rfl ?_
      refine w_iald (q := 34) aX4_count_33 (by decide) (hm 54 (by decide) (by decide)) (mm_ix_at (n := i) rfl (by omega) (rg_at hi)) rfl ?_
      refine w_iret aX4_count_34 rfl ?_
      refine ⟨?_, rfl⟩
      rw [if_neg c18, nI_clamp (by omega)]
      by_cases h0 : i = 0
      · subst h0
        rw [if_pos rfl, if_pos (show nI 0 = 0 from rfl)]
      · rw [if_neg h0, if_neg (show ¬ nI i = 0 from fun z => h0 ((nI_eq (b := 0) (by omega) (by omega)).mp z))]
    · refine w_aload_n (q := 22) aX4_count_21 rfl rfl ?_
      refine w_get (q := 25) aX4_count_22 f_4_147 (hm 32 (by decide) (by decide)) rfl rfl ?_
      refine w_goto (t := 34) aX4_count_25 (by decide) ?_
      refine w_iret aX4_count_34 rfl ?_
      refine ⟨?_, rfl⟩
      rw [if_neg (by rw [c18]; decide), if_pos c18]
  · rw [if_neg (fun z => bz_eq0 c9 (hin.mpr z))]
    refine w_bipush (v := -2) (q := 14) aX4_count_12 rfl rfl ?_
    refine w_iret aX4_count_14 rfl ?_
    exact ⟨rfl, rfl⟩
theorem d_done {F : Nat} {h : mm_H} {S : St} {P : List Fr} {X : Xs} {x : Int32} (hS : sM S ≤ 40) (hR : RM S P X h) : mW none (F + 2) mX4_done 0 [(0, .ref 32), (1, .int x)] [] h (fun r h' => r = some (.int (p_done S x)) ∧ h = h') := by
  obtain ⟨w, hm, r1, r2, r3, r4⟩ := hR
  unfold p_done
  refine w_aload_n (q := 1) aX4_done_0 rfl rfl ?_
  refine w_iload_n (q := 2) aX4_done_1 rfl rfl ?_
  refine w_callV aX4_done_2 t_4_106 (this_at rfl (hm 32 (by decide) (by decide))) (rfl) (d_isHearer hS hm) (fun r2 h2 hp => ?_)
  obtain ⟨rfl, rfl⟩ := hp
  refine w_if_eq (t := 17) (q := 8) aX4_done_5 (by decide) rfl (fun c5 => ?_) (fun c5 => ?_)
  · rw [if_neg (bz_eq0 c5)]
    refine w_bipush (v := -2) (q := 19) aX4_done_17 rfl rfl ?_
    refine w_iret aX4_done_19 rfl ?_
    exact ⟨rfl, rfl⟩
  · have hb := bz_ne0 c5
    rw [if_pos hb]
    obtain ⟨j, hj, rfl⟩ := rN_of (by omega) hb
    rw [nI_clamp (by omega)]
    refine w_aload_n (q := 9) aX4_done_8 rfl rfl ?_
    refine w_get (q := 12) aX4_done_9 f_4_44 (hm 32 (by decide) (by decide)) rfl rfl ?_
    refine w_iload_n (q := 13) aX4_done_12 rfl rfl ?_
    refine w_iald (q := 14) aX4_done_13 (by decide) (hm 44 (by decide) (by decide)) (mm_ix_at (n := j) rfl (by omega) (rg_at (by omega))) rfl ?_
    rw [if_pos hj]
    refine w_goto (t := 19) aX4_done_14 (by decide) ?_
    refine w_iret aX4_done_19 rfl ?_
    exact ⟨rfl, rfl⟩
end
section
theorem in_8_12 {s : Int32} : (¬ s.toInt64 < 8 ∧ s.toInt64 ≤ 12) ↔ (8 ≤ s ∧ s ≤ 12) := by
  rw [Int64.lt_iff_toInt_lt, Int64.le_iff_toInt_le, Int32.le_iff_toInt_le, Int32.le_iff_toInt_le, Int32.toInt_toInt64]
  show (¬ s.toInt < 8 ∧ s.toInt ≤ 12) ↔ (8 ≤ s.toInt ∧ s.toInt ≤ 12)
  omega
theorem rTm_0 (A : Act9) : rTm A 0 0 := ⟨fun _ => ⟨0, rfl, Nat.le_refl _, fun _ => rfl, fun h => h⟩, fun _ => ⟨0, rfl, by simp⟩⟩
theorem p_make_M (S : St) (s a b : Int32) : sM (p_make S s a b) = sM S + 1 := rfl
set_option maxHeartbeats 1000000 in
theorem d_make {F : Nat} {h : mm_H} {S : St} {P : List Fr} {X : Xs} {s a b : Int32} (hS : sM S < 40) (h2 : s = 2 → rN 8 a) (h8 : 8 ≤ s → s ≤ 12 → rN (sM S) a) (h11 : s = 11 → rN (sM S) b) (hR : RM S P X h) : mW none (F + 1) mX4_make 0 [(0, .ref 32), (1, .int s), (2, .int a), (3, .int b)] [] h (fun r h' => r = none ∧ RM (p_make S s a b) P X h' ∧ fr AM h h') := by
  obtain ⟨w, hm, r1, r2, r3, r4⟩ := hR
  have m32 := hm 32 (by decide) (by decide)
  have last : ∀ (h1 : mm_H), (∀ q, 32 ≤ q → q < 55 → ¬ (37 ≤ q ∧ q ≤ 42) → h1.2.2 q = h.2.2 q) → h1.2.2 37 = some (5, rg 40 (fu (fun j => .int (if j < sM S then (sA S j).1 else 0)) (sM S) (.int s))) → h1.2.2 38 = some (5, rg 40 (fu (fun j => .int (if j < sM S then (sA S j).2.1 else 0)) (sM S) (.int a))) → h1.2.2 39 = some (5, rg 40 (fu (fun j => .int (if j < sM S then (sA S j).2.2.1 else 0)) (sM S) (.int b))) → h1.2.2 40 = some (6, rg 40 (fu (fun j => .long (if j < sM S then (sA S j).2.2.2.1 else 0)) (sM S) (.long (p_act S s a b).2.2.2.1))) → h1.2.2 41 = some (5, rg 40 (fu (fun j => .int (if j < sM S then oI (sA S j).2.2.2.2.1 else 0)) (sM S) (.int (oI (p_act S s a b).2.2.2.2.1)))) → h1.2.2 42 = some (5, rg 40 (fu (fun j => .int (if j < sM S then oI (sA S j).2.2.2.2.2 else 0)) (sM S) (.int (oI (p_act S s a b).2.2.2.2.2)))) → fr AM h h1 →
      mW none (F + 1) mX4_make 106 [(4, .int (nI (sM S))), (0, .ref 32), (1, .int s), (2, .int a), (3, .int b)] [] h1 (fun r h' => r = none ∧ RM (p_make S s a b) P X h' ∧ fr AM h h') := fun h1 ho g37 g38 g39 g40 g41 g42 hf => by
    have g32 := (ho 32 (by decide) (by decide) (by decide)).trans m32
    have g43 := (ho 43 (by decide) (by decide) (by decide)).trans (hm 43 (by decide) (by decide))
    have g44 := (ho 44 (by decide) (by decide) (by decide)).trans (hm 44 (by decide) (by decide))
    have g45 := (ho 45 (by decide) (by decide) (by decide)).trans (hm 45 (by decide) (by decide))
    have g54 := (ho 54 (by decide) (by decide) (by decide)).trans (hm 54 (by decide) (by decide))
    refine w_aload_n (q := 107) aX4_make_106 rfl rfl ?_
    refine w_get (q := 110) aX4_make_107 f_4_41 (g32) rfl rfl ?_
    refine w_iload (q := 112) aX4_make_110 rfl rfl ?_
    refine w_iconst (v := 0) (q := 113) aX4_make_112 rfl rfl ?_
    refine w_iast (q := 114) (n := sM S) (vs' := _) aX4_make_113 (g43) (rfl) (by rw [rg_len]; omega) (by rw [rg_len]; omega) (rg_set _ _ _ _) rfl ?_
    refine w_aload_n (q := 115) aX4_make_114 rfl rfl ?_
    refine w_get (q := 118) aX4_make_115 f_4_44 (g32) rfl rfl ?_
    refine w_iload (q := 120) aX4_make_118 rfl rfl ?_
    refine w_iconst (v := 0) (q := 121) aX4_make_120 rfl rfl ?_
    refine w_iast (q := 122) (n := sM S) (vs' := _) aX4_make_121 (g44) (rfl) (by rw [rg_len]; omega) (by rw [rg_len]; omega) (rg_set _ _ _ _) rfl ?_
    refine w_aload_n (q := 123) aX4_make_122 rfl rfl ?_
    refine w_get (q := 126) aX4_make_123 f_4_47 (g32) rfl rfl ?_
    refine w_iload (q := 128) aX4_make_126 rfl rfl ?_
    refine w_iload (q := 130) aX4_make_128 rfl rfl ?_
    refine w_iast (q := 131) (n := sM S) (vs' := _) aX4_make_130 (g45) (rfl) (by rw [rg_len]; omega) (by rw [rg_len]; omega) (rg_set _ _ _ _) rfl ?_
    refine w_aload_n (q := 132) aX4_make_131 rfl rfl ?_
    refine w_dup (q := 133) aX4_make_132 rfl rfl ?_
    refine w_get (q := 136) aX4_make_133 f_4_81 (g32) rfl rfl ?_
    refine w_iconst (v := 1) (q := 137) aX4_make_136 rfl rfl ?_
    refine w_iadd (q := 138) aX4_make_137 rfl ?_
    refine w_put (q := 141) (fs' := [_, _, _, _, _, _, _, _, _, _, _, _, _, _, _, _, _, _, _, _, _, _, _, _, _, _, _, _, _, _, _]) aX4_make_138 f_4_81 (g32) (Nat.le_of_ble_eq_true rfl) rfl rfl (Or.inl rfl) rfl rfl ?_
    refine w_aload_n (q := 142) aX4_make_141 rfl rfl ?_
    refine w_get (q := 145) aX4_make_142 f_4_74 (up_s _ _ _) rfl rfl ?_
    refine w_iconst (v := 0) (q := 146) aX4_make_145 rfl rfl ?_
    refine w_aload_n (q := 147) aX4_make_146 rfl rfl ?_
    refine w_get (q := 150) aX4_make_147 f_4_81 (up_s _ _ _) rfl rfl ?_
    refine w_iast (q := 151) (n := 0) (vs' := _) aX4_make_150 (g54) (rfl) (by rw [rg_len]; omega) (by rw [rg_len]; omega) (rg_set _ _ _ _) rfl ?_
    refine w_vret aX4_make_151 rfl ?_
    refine ⟨rfl, ⟨(w.1, fu w.2.1 (sM S) 0, w.2.2), ?_, r1, ?_, r3, r4⟩, ((((hf.up (AM_l (by omega))).up (AM_l (by omega))).up (AM_l (by omega))).up (AM_l (by omega))).up (AM_l (by omega))⟩
    · have f37 : fu (fun j => Value.int (if j < sM S then (sA S j).1 else 0)) (sM S) (.int s) = fun j => Value.int (if j < sM S + 1 then (fu (sA S) (sM S) (p_act S s a b) j).1 else 0) := fu_new (g := fun A : Act9 => A.1) (x := p_act S s a b)
      have f38 : fu (fun j => Value.int (if j < sM S then (sA S j).2.1 else 0)) (sM S) (.int a) = fun j => Value.int (if j < sM S + 1 then (fu (sA S) (sM S) (p_act S s a b) j).2.1 else 0) := fu_new (g := fun A : Act9 => A.2.1) (x := p_act S s a b)
      have f39 : fu (fun j => Value.int (if j < sM S then (sA S j).2.2.1 else 0)) (sM S) (.int b) = fun j => Value.int (if j < sM S + 1 then (fu (sA S) (sM S) (p_act S s a b) j).2.2.1 else 0) := fu_new (g := fun A : Act9 => A.2.2.1) (x := p_act S s a b)
      have f40 : fu (fun j => Value.long (if j < sM S then (sA S j).2.2.2.1 else 0)) (sM S) (.long (p_act S s a b).2.2.2.1) = fun j => Value.long (if j < sM S + 1 then (fu (sA S) (sM S) (p_act S s a b) j).2.2.2.1 else 0) := fu_newL (g := fun A : Act9 => A.2.2.2.1) (x := p_act S s a b)
      have f41 : fu (fun j => Value.int (if j < sM S then oI (sA S j).2.2.2.2.1 else 0)) (sM S) (.int (oI (p_act S s a b).2.2.2.2.1)) = fun j => Value.int (if j < sM S + 1 then oI (fu (sA S) (sM S) (p_act S s a b) j).2.2.2.2.1 else 0) := fu_new (g := fun A : Act9 => oI A.2.2.2.2.1) (x := p_act S s a b)
      have f42 : fu (fun j => Value.int (if j < sM S then oI (sA S j).2.2.2.2.2 else 0)) (sM S) (.int (oI (p_act S s a b).2.2.2.2.2)) = fun j => Value.int (if j < sM S + 1 then oI (fu (sA S) (sM S) (p_act S s a b) j).2.2.2.2.2 else 0) := fu_new (g := fun A : Act9 => oI A.2.2.2.2.2) (x := p_act S s a b)
      have f43 : fu (fun j => Value.int (w.2.1 j)) (sM S) (.int 0) = fun j => Value.int (fu w.2.1 (sM S) 0 j) := fu_map Value.int w.2.1 _ 0
      have f44 : fu (fun j => Value.int (if j < sM S then nI (sB S j) else 0)) (sM S) (.int 0) = fun j => Value.int (if j < sM S + 1 then nI (fu (sB S) (sM S) 0 j) else 0) := fu_new (g := nI) (x := 0)
      have f45 : fu (fun j => Value.int (if j < sM S then oI (sH S j) else 0)) (sM S) (.int (nI (sM S))) = fun j => Value.int (if j < sM S + 1 then oI (fu (sH S) (sM S) (some (sM S)) j) else 0) := fu_new (g := oI) (x := some (sM S))
      have f54 : fu (fun j => Value.int (if j = 0 then nI (sM S) else sC S j)) 0 (.int (nI (sM S) + 1)) = fun j => Value.int (if j = 0 then nI (sM S + 1) else sC S j) := by
        funext j
        unfold fu
        by_cases e : j = 0
        · rw [if_pos e, if_pos e, nI_1]
        · simp only [e, if_false]
      have e32 : moL (p_make S s a b) P.length X = [.ref 33, .ref 34, .ref 35, .ref 36, .int (nI (sM S) + 1), .ref 37, .ref 38, .ref 39, .ref 40, .ref 41, .ref 42, .ref 43, .ref 44, .ref 45, .ref 46, .ref 47, .int (nI (sQ S).length), .int (nI P.length), .ref 48, .ref 49, .ref 50, .ref 51, .ref 52, .ref 53, .int (nI (sD S)), .int (nI (sS S)), .int X.1, .int X.2.1, .int X.2.2.1, .long X.2.2.2, .ref 54] := by rw [nI_1]; rfl
      intro q h1 h2
      rcases q23 q h1 h2 with rfl | rfl | rfl | rfl | rfl | rfl | rfl | rfl | rfl | rfl | rfl | rfl | rfl | rfl | rfl | rfl | rfl | rfl | rfl | rfl | rfl | rfl | rfl
      · exact congrArg (fun z => some ((4 : Nat), z)) e32.symm
      · exact (ho 33 h1 h2 (by decide)).trans (hm 33 h1 h2)
      · exact (ho 34 h1 h2 (by decide)).trans (hm 34 h1 h2)
      · exact (ho 35 h1 h2 (by decide)).trans (hm 35 h1 h2)
      · exact (ho 36 h1 h2 (by decide)).trans (hm 36 h1 h2)
      · exact g37.trans (congrArg (fun z => some ((5 : Nat), rg 40 z)) f37)
      · exact g38.trans (congrArg (fun z => some ((5 : Nat), rg 40 z)) f38)
      · exact g39.trans (congrArg (fun z => some ((5 : Nat), rg 40 z)) f39)
      · exact g40.trans (congrArg (fun z => some ((6 : Nat), rg 40 z)) f40)
      · exact g41.trans (congrArg (fun z => some ((5 : Nat), rg 40 z)) f41)
      · exact g42.trans (congrArg (fun z => some ((5 : Nat), rg 40 z)) f42)
      · exact congrArg (fun z => some ((5 : Nat), rg 40 z)) f43
      · exact congrArg (fun z => some ((5 : Nat), rg 40 z)) f44
      · exact congrArg (fun z => some ((5 : Nat), rg 40 z)) f45
      · exact (ho 46 h1 h2 (by decide)).trans (hm 46 h1 h2)
      · exact (ho 47 h1 h2 (by decide)).trans (hm 47 h1 h2)
      · exact (ho 48 h1 h2 (by decide)).trans (hm 48 h1 h2)
      · exact (ho 49 h1 h2 (by decide)).trans (hm 49 h1 h2)
      · exact (ho 50 h1 h2 (by decide)).trans (hm 50 h1 h2)
      · exact (ho 51 h1 h2 (by decide)).trans (hm 51 h1 h2)
      · exact (ho 52 h1 h2 (by decide)).trans (hm 52 h1 h2)
      · exact (ho 53 h1 h2 (by decide)).trans (hm 53 h1 h2)
      · exact congrArg (fun z => some ((5 : Nat), rg 10 z)) f54
    · intro k hk
      have hk2 : k < sM S + 1 := hk
      show rTm (fu (sA S) (sM S) (p_act S s a b) k) (fu (sB S) (sM S) 0 k) (fu w.2.1 (sM S) 0 k)
      by_cases e : k = sM S
      · subst e
        rw [fu_s, fu_s, fu_s]
        exact rTm_0 _
      · rw [fu_n e, fu_n e, fu_n e]
        exact r2 k (by omega)
  have s83 : ∀ (h1 : mm_H), (∀ q, 32 ≤ q → q < 55 → ¬ (37 ≤ q ∧ q ≤ 41) → h1.2.2 q = h.2.2 q) → h1.2.2 37 = some (5, rg 40 (fu (fun j => .int (if j < sM S then (sA S j).1 else 0)) (sM S) (.int s))) → h1.2.2 38 = some (5, rg 40 (fu (fun j => .int (if j < sM S then (sA S j).2.1 else 0)) (sM S) (.int a))) → h1.2.2 39 = some (5, rg 40 (fu (fun j => .int (if j < sM S then (sA S j).2.2.1 else 0)) (sM S) (.int b))) → h1.2.2 40 = some (6, rg 40 (fu (fun j => .long (if j < sM S then (sA S j).2.2.2.1 else 0)) (sM S) (.long (p_act S s a b).2.2.2.1))) → h1.2.2 41 = some (5, rg 40 (fu (fun j => .int (if j < sM S then oI (sA S j).2.2.2.2.1 else 0)) (sM S) (.int (oI (p_act S s a b).2.2.2.2.1)))) → fr AM h h1 →
      mW none (F + 1) mX4_make 83 [(4, .int (nI (sM S))), (0, .ref 32), (1, .int s), (2, .int a), (3, .int b)] [] h1 (fun r h' => r = none ∧ RM (p_make S s a b) P X h' ∧ fr AM h h') := fun h1 ho g37 g38 g39 g40 g41 hf => by
    have g32 := (ho 32 (by decide) (by decide) (by decide)).trans m32
    have g42 := (ho 42 (by decide) (by decide) (by decide)).trans (hm 42 (by decide) (by decide))
    have g45 := (ho 45 (by decide) (by decide) (by decide)).trans (hm 45 (by decide) (by decide))
    have fin : ∀ y : Int32, y = oI (p_act S s a b).2.2.2.2.2 → mW none (F + 1) mX4_make 105 [(4, .int (nI (sM S))), (0, .ref 32), (1, .int s), (2, .int a), (3, .int b)] [.int y, .int (nI (sM S)), .ref 42] h1 (fun r h' => r = none ∧ RM (p_make S s a b) P X h' ∧ fr AM h h') := fun y hy => by
      subst hy
      refine w_iast (q := 106) (n := sM S) (vs' := _) aX4_make_105 (g42) (rfl) (by rw [rg_len]; omega) (by rw [rg_len]; omega) (rg_set _ _ _ _) rfl ?_
      exact last _ (fun q h1 h2 h3 => (up_n (by omega)).trans (ho q h1 h2 (by omega))) ((up_n (by decide)).trans g37) ((up_n (by decide)).trans g38) ((up_n (by decide)).trans g39) ((up_n (by decide)).trans g40) ((up_n (by decide)).trans g41) (up_s _ _ _) (hf.up (AM_l (by omega)))
    have e : (p_act S s a b).2.2.2.2.2 = if s = 11 then sH S b.toNatClampNeg else none := rfl
    rw [e] at fin
    refine w_aload_n (q := 84) aX4_make_83 rfl rfl ?_
    refine w_get (q := 87) aX4_make_84 f_4_38 (g32) rfl rfl ?_
    refine w_iload (q := 89) aX4_make_87 rfl rfl ?_
    refine w_iload_n (q := 90) aX4_make_89 rfl rfl ?_
    refine w_bipush (v := 11) (q := 92) aX4_make_90 rfl rfl ?_
    refine w_ic_ne (t := 104) (q := 95) aX4_make_92 (by decide) rfl (fun c92 => ?_) (fun c92 => ?_)
    · rw [if_neg c92] at fin
      refine w_iconst (v := -1) (q := 105) aX4_make_104 rfl rfl ?_
      exact fin _ rfl
    · rw [if_pos c92] at fin
      obtain ⟨j, hj, rfl⟩ := rN_of (by omega) (h11 c92)
      rw [nI_clamp (by omega)] at fin
      refine w_aload_n (q := 96) aX4_make_95 rfl rfl ?_
      refine w_get (q := 99) aX4_make_96 f_4_47 (g32) rfl rfl ?_
      refine w_iload_n (q := 100) aX4_make_99 rfl rfl ?_
      refine w_iald (q := 101) aX4_make_100 (by decide) (g45) (mm_ix_at (n := j) rfl (by omega) (rg_at (by omega))) rfl ?_
      rw [if_pos hj]
      refine w_goto (t := 105) aX4_make_101 (by decide) ?_
      exact fin _ rfl
  have s52 : ∀ (h1 : mm_H), (∀ q, 32 ≤ q → q < 55 → ¬ (37 ≤ q ∧ q ≤ 40) → h1.2.2 q = h.2.2 q) → h1.2.2 37 = some (5, rg 40 (fu (fun j => .int (if j < sM S then (sA S j).1 else 0)) (sM S) (.int s))) → h1.2.2 38 = some (5, rg 40 (fu (fun j => .int (if j < sM S then (sA S j).2.1 else 0)) (sM S) (.int a))) → h1.2.2 39 = some (5, rg 40 (fu (fun j => .int (if j < sM S then (sA S j).2.2.1 else 0)) (sM S) (.int b))) → h1.2.2 40 = some (6, rg 40 (fu (fun j => .long (if j < sM S then (sA S j).2.2.2.1 else 0)) (sM S) (.long (p_act S s a b).2.2.2.1))) → fr AM h h1 →
      mW none (F + 1) mX4_make 52 [(4, .int (nI (sM S))), (0, .ref 32), (1, .int s), (2, .int a), (3, .int b)] [] h1 (fun r h' => r = none ∧ RM (p_make S s a b) P X h' ∧ fr AM h h') := fun h1 ho g37 g38 g39 g40 hf => by
    have g32 := (ho 32 (by decide) (by decide) (by decide)).trans m32
    have g41 := (ho 41 (by decide) (by decide) (by decide)).trans (hm 41 (by decide) (by decide))
    have g45 := (ho 45 (by decide) (by decide) (by decide)).trans (hm 45 (by decide) (by decide))
    have fin : ∀ y : Int32, y = oI (p_act S s a b).2.2.2.2.1 → mW none (F + 1) mX4_make 82 [(4, .int (nI (sM S))), (0, .ref 32), (1, .int s), (2, .int a), (3, .int b)] [.int y, .int (nI (sM S)), .ref 41] h1 (fun r h' => r = none ∧ RM (p_make S s a b) P X h' ∧ fr AM h h') := fun y hy => by
      subst hy
      refine w_iast (q := 83) (n := sM S) (vs' := _) aX4_make_82 (g41) (rfl) (by rw [rg_len]; omega) (by rw [rg_len]; omega) (rg_set _ _ _ _) rfl ?_
      exact s83 _ (fun q h1 h2 h3 => (up_n (by omega)).trans (ho q h1 h2 (by omega))) ((up_n (by decide)).trans g37) ((up_n (by decide)).trans g38) ((up_n (by decide)).trans g39) ((up_n (by decide)).trans g40) (up_s _ _ _) (hf.up (AM_l (by omega)))
    have e : (p_act S s a b).2.2.2.2.1 = if 8 ≤ s ∧ s ≤ 12 then sH S a.toNatClampNeg else none := rfl
    rw [e] at fin
    refine w_aload_n (q := 53) aX4_make_52 rfl rfl ?_
    refine w_get (q := 56) aX4_make_53 f_4_35 (g32) rfl rfl ?_
    refine w_iload (q := 58) aX4_make_56 rfl rfl ?_
    refine w_iload_n (q := 59) aX4_make_58 rfl rfl ?_
    refine w_i2l (q := 60) aX4_make_59 rfl ?_
    refine w_ldc (q := 63) aX4_make_60 l_4_100 rfl ?_
    refine w_ldc (q := 66) aX4_make_63 l_4_102 rfl ?_
    refine w_callS aX4_make_66 x_4_85 t_4_85 (rfl) (d_in) (fun r66 h66 hp => ?_)
    obtain ⟨rfl, rfl⟩ := hp
    refine w_if_eq (t := 81) (q := 72) aX4_make_69 (by decide) rfl (fun c69 => ?_) (fun c69 => ?_)
    · rw [if_neg (fun z => bz_eq0 c69 (in_8_12.mpr z))] at fin
      refine w_iconst (v := -1) (q := 82) aX4_make_81 rfl rfl ?_
      exact fin _ rfl
    · have hc := in_8_12.mp (bz_ne0 c69)
      rw [if_pos hc] at fin
      obtain ⟨j, hj, rfl⟩ := rN_of (by omega) (h8 hc.1 hc.2)
      rw [nI_clamp (by omega)] at fin
      refine w_aload_n (q := 73) aX4_make_72 rfl rfl ?_
      refine w_get (q := 76) aX4_make_73 f_4_47 (g32) rfl rfl ?_
      refine w_iload_n (q := 77) aX4_make_76 rfl rfl ?_
      refine w_iald (q := 78) aX4_make_77 (by decide) (g45) (mm_ix_at (n := j) rfl (by omega) (rg_at (by omega))) rfl ?_
      rw [if_pos hj]
      refine w_goto (t := 82) aX4_make_78 (by decide) ?_
      exact fin _ rfl
  refine w_aload_n (q := 1) aX4_make_0 rfl rfl ?_
  refine w_get (q := 4) aX4_make_1 f_4_81 (m32) rfl rfl ?_
  refine w_istore (q := 6) (ls' := [(4, _), (0, _), (1, _), (2, _), (3, _)]) aX4_make_4 (by decide) rfl rfl ?_
  refine w_aload_n (q := 7) aX4_make_6 rfl rfl ?_
  refine w_get (q := 10) aX4_make_7 f_4_23 (m32) rfl rfl ?_
  refine w_iload (q := 12) aX4_make_10 rfl rfl ?_
  refine w_iload_n (q := 13) aX4_make_12 rfl rfl ?_
  refine w_iast (q := 14) (n := sM S) (vs' := _) aX4_make_13 (hm 37 (by decide) (by decide)) (rfl) (by rw [rg_len]; omega) (by rw [rg_len]; omega) (rg_set _ _ _ _) rfl ?_
  refine w_aload_n (q := 15) aX4_make_14 rfl rfl ?_
  refine w_get (q := 18) aX4_make_15 f_4_26 (m32) rfl rfl ?_
  refine w_iload (q := 20) aX4_make_18 rfl rfl ?_
  refine w_iload_n (q := 21) aX4_make_20 rfl rfl ?_
  refine w_iast (q := 22) (n := sM S) (vs' := _) aX4_make_21 (hm 38 (by decide) (by decide)) (rfl) (by rw [rg_len]; omega) (by rw [rg_len]; omega) (rg_set _ _ _ _) rfl ?_
  refine w_aload_n (q := 23) aX4_make_22 rfl rfl ?_
  refine w_get (q := 26) aX4_make_23 f_4_29 (m32) rfl rfl ?_
  refine w_iload (q := 28) aX4_make_26 rfl rfl ?_
  refine w_iload_n (q := 29) aX4_make_28 rfl rfl ?_
  refine w_iast (q := 30) (n := sM S) (vs' := _) aX4_make_29 (hm 39 (by decide) (by decide)) (rfl) (by rw [rg_len]; omega) (by rw [rg_len]; omega) (rg_set _ _ _ _) rfl ?_
  refine w_aload_n (q := 31) aX4_make_30 rfl rfl ?_
  refine w_get (q := 34) aX4_make_31 f_4_32 (m32) rfl rfl ?_
  refine w_iload (q := 36) aX4_make_34 rfl rfl ?_
  refine w_iload_n (q := 37) aX4_make_36 rfl rfl ?_
  refine w_iconst (v := 2) (q := 38) aX4_make_37 rfl rfl ?_
  have fin : ∀ y : Int64, y = (p_act S s a b).2.2.2.1 → mW none (F + 1) mX4_make 51 [(4, .int (nI (sM S))), (0, .ref 32), (1, .int s), (2, .int a), (3, .int b)] [.long y, .int (nI (sM S)), .ref 40] (mm_up (mm_up (mm_up h 37 (5, rg 40 (fu (fun j => .int (if j < sM S then (sA S j).1 else 0)) (sM S) (.int s)))) 38 (5, rg 40 (fu (fun j => .int (if j < sM S then (sA S j).2.1 else 0)) (sM S) (.int a)))) 39 (5, rg 40 (fu (fun j => .int (if j < sM S then (sA S j).2.2.1 else 0)) (sM S) (.int b)))) (fun r h' => r = none ∧ RM (p_make S s a b) P X h' ∧ fr AM h h') := fun y hy => by
    subst hy
    refine w_last (q := 52) (n := sM S) (vs' := _) aX4_make_51 (hm 40 (by decide) (by decide)) (rfl) (by rw [rg_len]; omega) (by rw [rg_len]; omega) (rg_set _ _ _ _) rfl ?_
    exact s52 _ (fun q h1 h2 h3 => (up_n (by omega)).trans ((up_n (by omega)).trans ((up_n (by omega)).trans (up_n (by omega))))) rfl rfl rfl (up_s _ _ _) ((((fr.rf.up (AM_l (by omega))).up (AM_l (by omega))).up (AM_l (by omega))).up (AM_l (by omega)))
  have e : (p_act S s a b).2.2.2.1 = if s = 2 then sT S a.toNatClampNeg else 0 := rfl
  rw [e] at fin
  refine w_ic_ne (t := 50) (q := 41) aX4_make_38 (by decide) rfl (fun c38 => ?_) (fun c38 => ?_)
  · rw [if_neg c38] at fin
    refine w_lconst (v := 0) (q := 51) aX4_make_50 rfl rfl ?_
    exact fin _ rfl
  · rw [if_pos c38] at fin
    obtain ⟨j, hj, rfl⟩ := rN_of (by omega) (h2 c38)
    rw [nI_clamp (by omega)] at fin
    refine w_aload_n (q := 42) aX4_make_41 rfl rfl ?_
    refine w_get (q := 45) aX4_make_42 f_4_7 (m32) rfl rfl ?_
    refine w_iload_n (q := 46) aX4_make_45 rfl rfl ?_
    refine w_lald (q := 47) aX4_make_46 (hm 33 (by decide) (by decide)) (mm_ix_at (n := j) rfl (by omega) (rg_at hj)) rfl ?_
    refine w_goto (t := 51) aX4_make_47 (by decide) ?_
    exact fin _ rfl
end
section
theorem can_ref {m : Nat} {s a b : Int32} : p_can m s a b ↔ rN 15 s ∧ (s < 4 → rN 8 a) ∧ (s = 10 ∨ s = 12 → rN 8 b) ∧ (s = 5 ∨ s = 6 → rN 6 a) ∧ (s = 14 → rN 6 b) ∧ (8 ≤ s → rN m a) ∧ (s = 11 → rN m b) := by
  by_cases h : rN 15 s
  · have g : p_can m s a b ↔ (s < 4 → rN 8 a) ∧ (s = 10 ∨ s = 12 → rN 8 b) ∧ (s = 5 ∨ s = 6 → rN 6 a) ∧ (s = 14 → rN 6 b) ∧ (8 ≤ s → rN m a) ∧ (s = 11 → rN m b) := by
      obtain ⟨j, hj, rfl⟩ := rN_of (by omega) h
      have hcs : j = 0 ∨ j = 1 ∨ j = 2 ∨ j = 3 ∨ j = 4 ∨ j = 5 ∨ j = 6 ∨ j = 7 ∨ j = 8 ∨ j = 9 ∨ j = 10 ∨ j = 11 ∨ j = 12 ∨ j = 13 ∨ j = 14 := by omega
      rcases hcs with rfl | rfl | rfl | rfl | rfl | rfl | rfl | rfl | rfl | rfl | rfl | rfl | rfl | rfl | rfl
      · exact can_0.symm.trans ⟨fun q => ⟨fun _ => q, (fun z => absurd z (by decide)), (fun z => absurd z (by decide)), (fun z => absurd z (by decide)), (fun z => absurd z (by decide)), (fun z => absurd z (by decide))⟩, fun q => q.1 (by decide)⟩
      · exact can_1.symm.trans ⟨fun q => ⟨fun _ => q, (fun z => absurd z (by decide)), (fun z => absurd z (by decide)), (fun z => absurd z (by decide)), (fun z => absurd z (by decide)), (fun z => absurd z (by decide))⟩, fun q => q.1 (by decide)⟩
      · exact can_2'.symm.trans ⟨fun q => ⟨fun _ => q, (fun z => absurd z (by decide)), (fun z => absurd z (by decide)), (fun z => absurd z (by decide)), (fun z => absurd z (by decide)), (fun z => absurd z (by decide))⟩, fun q => q.1 (by decide)⟩
      · exact can_3.symm.trans ⟨fun q => ⟨fun _ => q, (fun z => absurd z (by decide)), (fun z => absurd z (by decide)), (fun z => absurd z (by decide)), (fun z => absurd z (by decide)), (fun z => absurd z (by decide))⟩, fun q => q.1 (by decide)⟩
      · exact ⟨fun q => ⟨(fun z => absurd z (by decide)), (fun z => absurd z (by decide)), (fun z => absurd z (by decide)), (fun z => absurd z (by decide)), (fun z => absurd z (by decide)), (fun z => absurd z (by decide))⟩, fun q => can_4⟩
      · exact can_5.symm.trans ⟨fun q => ⟨(fun z => absurd z (by decide)), (fun z => absurd z (by decide)), fun _ => q, (fun z => absurd z (by decide)), (fun z => absurd z (by decide)), (fun z => absurd z (by decide))⟩, fun q => q.2.2.1 (by decide)⟩
      · exact can_6.symm.trans ⟨fun q => ⟨(fun z => absurd z (by decide)), (fun z => absurd z (by decide)), fun _ => q, (fun z => absurd z (by decide)), (fun z => absurd z (by decide)), (fun z => absurd z (by decide))⟩, fun q => q.2.2.1 (by decide)⟩
      · exact ⟨fun q => ⟨(fun z => absurd z (by decide)), (fun z => absurd z (by decide)), (fun z => absurd z (by decide)), (fun z => absurd z (by decide)), (fun z => absurd z (by decide)), (fun z => absurd z (by decide))⟩, fun q => can_7⟩
      · exact can_8'.symm.trans ⟨fun q => ⟨(fun z => absurd z (by decide)), (fun z => absurd z (by decide)), (fun z => absurd z (by decide)), (fun z => absurd z (by decide)), fun _ => q, (fun z => absurd z (by decide))⟩, fun q => q.2.2.2.2.1 (by decide)⟩
      · exact can_9.symm.trans ⟨fun q => ⟨(fun z => absurd z (by decide)), (fun z => absurd z (by decide)), (fun z => absurd z (by decide)), (fun z => absurd z (by decide)), fun _ => q, (fun z => absurd z (by decide))⟩, fun q => q.2.2.2.2.1 (by decide)⟩
      · exact can_10.symm.trans ⟨fun q => ⟨(fun z => absurd z (by decide)), fun _ => q.2, (fun z => absurd z (by decide)), (fun z => absurd z (by decide)), fun _ => q.1, (fun z => absurd z (by decide))⟩, fun q => ⟨q.2.2.2.2.1 (by decide), q.2.1 (by decide)⟩⟩
      · exact can_11.symm.trans ⟨fun q => ⟨(fun z => absurd z (by decide)), (fun z => absurd z (by decide)), (fun z => absurd z (by decide)), (fun z => absurd z (by decide)), fun _ => q.1, fun _ => q.2⟩, fun q => ⟨q.2.2.2.2.1 (by decide), q.2.2.2.2.2 (by decide)⟩⟩
      · exact can_12.symm.trans ⟨fun q => ⟨(fun z => absurd z (by decide)), fun _ => q.2, (fun z => absurd z (by decide)), (fun z => absurd z (by decide)), fun _ => q.1, (fun z => absurd z (by decide))⟩, fun q => ⟨q.2.2.2.2.1 (by decide), q.2.1 (by decide)⟩⟩
      · exact can_13.symm.trans ⟨fun q => ⟨(fun z => absurd z (by decide)), (fun z => absurd z (by decide)), (fun z => absurd z (by decide)), (fun z => absurd z (by decide)), fun _ => q, (fun z => absurd z (by decide))⟩, fun q => q.2.2.2.2.1 (by decide)⟩
      · exact can_14.symm.trans ⟨fun q => ⟨(fun z => absurd z (by decide)), (fun z => absurd z (by decide)), (fun z => absurd z (by decide)), fun _ => q.2, fun _ => q.1, (fun z => absurd z (by decide))⟩, fun q => ⟨q.2.2.2.2.1 (by decide), q.2.2.2.1 (by decide)⟩⟩
    exact ⟨fun q => ⟨h, g.mp q⟩, fun q => g.mpr q.2⟩
  · exact ⟨fun q => absurd (can_in q) h, fun q => absurd q.1 h⟩
theorem d_hearer {F : Nat} {h : mm_H} {S : St} {P : List Fr} {X : Xs} {s a b : Int32} (hS : sM S ≤ 40) (hR : RM S P X h) : mW none (F + 2) mX4_hearer 0 [(0, .ref 32), (1, .int s), (2, .int a), (3, .int b)] [] h (mP (p_hearer S s a b) P X h) := by
  have hR0 := hR
  obtain ⟨w, hm, r1, r2, r3, r4⟩ := hR
  have m32 := hm 32 (by decide) (by decide)
  unfold p_hearer
  have t114 : p_can (sM S) s a b → mW none (F + 2) mX4_hearer 114 [(0, .ref 32), (1, .int s), (2, .int a), (3, .int b)] [] h (mP (if p_can (sM S) s a b then (if 40 ≤ sM S then (-3, S) else (nI (sM S), p_make S s a b)) else (-2, S)) P X h) := fun hc => by
    rw [if_pos hc]
    refine w_aload_n (q := 115) aX4_hearer_114 rfl rfl ?_
    refine w_get (q := 118) aX4_hearer_115 f_4_81 (m32) rfl rfl ?_
    refine w_bipush (v := 40) (q := 120) aX4_hearer_118 rfl rfl ?_
    refine w_ic_ne (t := 126) (q := 123) aX4_hearer_120 (by decide) rfl (fun c120 => ?_) (fun c120 => ?_)
    · have hlt : sM S < 40 := Nat.lt_of_le_of_ne hS (fun z => c120 (by rw [z]; rfl))
      rw [if_neg (by omega)]
      refine w_aload_n (q := 127) aX4_hearer_126 rfl rfl ?_
      refine w_iload_n (q := 128) aX4_hearer_127 rfl rfl ?_
      refine w_iload_n (q := 129) aX4_hearer_128 rfl rfl ?_
      refine w_iload_n (q := 130) aX4_hearer_129 rfl rfl ?_
      refine w_callV aX4_hearer_130 t_4_77 (this_at rfl m32) (rfl) (d_make hlt (fun e => by subst e; exact can_2 hc) (can_8 hc) (fun e => by subst e; exact (can_11.mpr hc).2) hR0) (fun r130 h130 hp => ?_)
      obtain ⟨rfl, hR2, g3⟩ := hp
      obtain ⟨w2, hm2, hr2⟩ := hR2
      refine w_aload_n (q := 134) aX4_hearer_133 rfl rfl ?_
      refine w_get (q := 137) aX4_hearer_134 f_4_81 (hm2 32 (by decide) (by decide)) rfl rfl ?_
      refine w_iconst (v := 1) (q := 138) aX4_hearer_137 rfl rfl ?_
      refine w_isub (q := 139) aX4_hearer_138 rfl ?_
      refine w_iret aX4_hearer_139 rfl ?_
      refine ⟨?_, ⟨w2, hm2, hr2⟩, g3⟩
      show some (Value.int (nI (sM S + 1) - 1)) = _
      rw [nI_pred]
    · have hge : sM S = 40 := (nI_iff (b := 40) (by omega) (by omega)).mp c120
      rw [if_pos (by omega)]
      refine w_bipush (v := -3) (q := 125) aX4_hearer_123 rfl rfl ?_
      refine w_iret aX4_hearer_125 rfl ?_
      exact ⟨rfl, hR0, fr.rf⟩
  have b46 : ¬ p_can (sM S) s a b → mW none (F + 2) mX4_hearer 46 [(0, .ref 32), (1, .int s), (2, .int a), (3, .int b)] [] h (mP (if p_can (sM S) s a b then (if 40 ≤ sM S then (-3, S) else (nI (sM S), p_make S s a b)) else (-2, S)) P X h) := fun hc => by
    rw [if_neg hc]
    refine w_bipush (v := -2) (q := 48) aX4_hearer_46 rfl rfl ?_
    refine w_iret aX4_hearer_48 rfl ?_
    exact ⟨rfl, hR0, fr.rf⟩
  have b80 : ¬ p_can (sM S) s a b → mW none (F + 2) mX4_hearer 80 [(0, .ref 32), (1, .int s), (2, .int a), (3, .int b)] [] h (mP (if p_can (sM S) s a b then (if 40 ≤ sM S then (-3, S) else (nI (sM S), p_make S s a b)) else (-2, S)) P X h) := fun hc => by
    rw [if_neg hc]
    refine w_bipush (v := -2) (q := 82) aX4_hearer_80 rfl rfl ?_
    refine w_iret aX4_hearer_82 rfl ?_
    exact ⟨rfl, hR0, fr.rf⟩
  have b111 : ¬ p_can (sM S) s a b → mW none (F + 2) mX4_hearer 111 [(0, .ref 32), (1, .int s), (2, .int a), (3, .int b)] [] h (mP (if p_can (sM S) s a b then (if 40 ≤ sM S then (-3, S) else (nI (sM S), p_make S s a b)) else (-2, S)) P X h) := fun hc => by
    rw [if_neg hc]
    refine w_bipush (v := -2) (q := 113) aX4_hearer_111 rfl rfl ?_
    refine w_iret aX4_hearer_113 rfl ?_
    exact ⟨rfl, hR0, fr.rf⟩
  have t97 : rN 15 s ∧ (s < 4 → rN 8 a) ∧ (s = 10 ∨ s = 12 → rN 8 b) ∧ (s = 5 ∨ s = 6 → rN 6 a) ∧ (s = 14 → rN 6 b) ∧ (8 ≤ s → rN (sM S) a) → mW none (F + 2) mX4_hearer 97 [(0, .ref 32), (1, .int s), (2, .int a), (3, .int b)] [] h (mP (if p_can (sM S) s a b then (if 40 ≤ sM S then (-3, S) else (nI (sM S), p_make S s a b)) else (-2, S)) P X h) := fun hc => by
    refine w_iload_n (q := 98) aX4_hearer_97 rfl rfl ?_
    refine w_bipush (v := 11) (q := 100) aX4_hearer_98 rfl rfl ?_
    refine w_ic_ne (t := 114) (q := 103) aX4_hearer_100 (by decide) rfl (fun c100 => ?_) (fun c100 => ?_)
    · exact t114 (can_ref.mpr ⟨hc.1, hc.2.1, hc.2.2.1, hc.2.2.2.1, hc.2.2.2.2.1, hc.2.2.2.2.2, fun z => absurd z c100⟩)
    · refine w_aload_n (q := 104) aX4_hearer_103 rfl rfl ?_
      refine w_iload_n (q := 105) aX4_hearer_104 rfl rfl ?_
      refine w_callV aX4_hearer_105 t_4_106 (this_at rfl m32) (rfl) (d_isHearer hS hm) (fun r105 h105 hp => ?_)
      obtain ⟨rfl, rfl⟩ := hp
      refine w_if_ne (t := 114) (q := 111) aX4_hearer_108 (by decide) rfl (fun c108 => ?_) (fun c108 => ?_)
      · exact t114 (can_ref.mpr ⟨hc.1, hc.2.1, hc.2.2.1, hc.2.2.2.1, hc.2.2.2.2.1, hc.2.2.2.2.2, fun _ => bz_ne0 c108⟩)
      · exact b111 (fun z => bz_eq0 c108 ((can_ref.mp z).2.2.2.2.2.2 c100))
  have t83 : rN 15 s ∧ (s < 4 → rN 8 a) ∧ (s = 10 ∨ s = 12 → rN 8 b) ∧ (s = 5 ∨ s = 6 → rN 6 a) ∧ (s = 14 → rN 6 b) → mW none (F + 2) mX4_hearer 83 [(0, .ref 32), (1, .int s), (2, .int a), (3, .int b)] [] h (mP (if p_can (sM S) s a b then (if 40 ≤ sM S then (-3, S) else (nI (sM S), p_make S s a b)) else (-2, S)) P X h) := fun hc => by
    refine w_iload_n (q := 84) aX4_hearer_83 rfl rfl ?_
    refine w_bipush (v := 8) (q := 86) aX4_hearer_84 rfl rfl ?_
    refine w_ic_lt (t := 97) (q := 89) aX4_hearer_86 (by decide) rfl (fun c86 => ?_) (fun c86 => ?_)
    · exact t97 ⟨hc.1, hc.2.1, hc.2.2.1, hc.2.2.2.1, hc.2.2.2.2, fun z => absurd z (Int32.not_le.mpr c86)⟩
    · refine w_aload_n (q := 90) aX4_hearer_89 rfl rfl ?_
      refine w_iload_n (q := 91) aX4_hearer_90 rfl rfl ?_
      refine w_callV aX4_hearer_91 t_4_106 (this_at rfl m32) (rfl) (d_isHearer hS hm) (fun r91 h91 hp => ?_)
      obtain ⟨rfl, rfl⟩ := hp
      refine w_if_eq (t := 111) (q := 97) aX4_hearer_94 (by decide) rfl (fun c94 => ?_) (fun c94 => ?_)
      · exact b111 (fun z => bz_eq0 c94 ((can_ref.mp z).2.2.2.2.2.1 (Int32.not_lt.mp c86)))
      · exact t97 ⟨hc.1, hc.2.1, hc.2.2.1, hc.2.2.2.1, hc.2.2.2.2, fun z => bz_ne0 c94⟩
  have t67 : rN 15 s ∧ (s < 4 → rN 8 a) ∧ (s = 10 ∨ s = 12 → rN 8 b) ∧ (s = 5 ∨ s = 6 → rN 6 a) → mW none (F + 2) mX4_hearer 67 [(0, .ref 32), (1, .int s), (2, .int a), (3, .int b)] [] h (mP (if p_can (sM S) s a b then (if 40 ≤ sM S then (-3, S) else (nI (sM S), p_make S s a b)) else (-2, S)) P X h) := fun hc => by
    refine w_iload_n (q := 68) aX4_hearer_67 rfl rfl ?_
    refine w_bipush (v := 14) (q := 70) aX4_hearer_68 rfl rfl ?_
    refine w_ic_ne (t := 83) (q := 73) aX4_hearer_70 (by decide) rfl (fun c70 => ?_) (fun c70 => ?_)
    · exact t83 ⟨hc.1, hc.2.1, hc.2.2.1, hc.2.2.2, fun z => absurd z c70⟩
    · refine w_iload_n (q := 74) aX4_hearer_73 rfl rfl ?_
      refine w_callS aX4_hearer_74 x_4_97 t_4_97 (rfl) (d_isBell) (fun r74 h74 hp => ?_)
      obtain ⟨rfl, rfl⟩ := hp
      refine w_if_ne (t := 83) (q := 80) aX4_hearer_77 (by decide) rfl (fun c77 => ?_) (fun c77 => ?_)
      · exact t83 ⟨hc.1, hc.2.1, hc.2.2.1, hc.2.2.2, fun z => bz_ne0 c77⟩
      · exact b80 (fun z => bz_eq0 c77 ((can_ref.mp z).2.2.2.2.1 c70))
  have t60 : s = 5 ∨ s = 6 → rN 15 s ∧ (s < 4 → rN 8 a) ∧ (s = 10 ∨ s = 12 → rN 8 b) → mW none (F + 2) mX4_hearer 60 [(0, .ref 32), (1, .int s), (2, .int a), (3, .int b)] [] h (mP (if p_can (sM S) s a b then (if 40 ≤ sM S then (-3, S) else (nI (sM S), p_make S s a b)) else (-2, S)) P X h) := fun hs hc => by
    refine w_iload_n (q := 61) aX4_hearer_60 rfl rfl ?_
    refine w_callS aX4_hearer_61 x_4_97 t_4_97 (rfl) (d_isBell) (fun r61 h61 hp => ?_)
    obtain ⟨rfl, rfl⟩ := hp
    refine w_if_eq (t := 80) (q := 67) aX4_hearer_64 (by decide) rfl (fun c64 => ?_) (fun c64 => ?_)
    · exact b80 (fun z => bz_eq0 c64 ((can_ref.mp z).2.2.2.1 hs))
    · exact t67 ⟨hc.1, hc.2.1, hc.2.2, fun z => bz_ne0 c64⟩
  have t49 : rN 15 s ∧ (s < 4 → rN 8 a) ∧ (s = 10 ∨ s = 12 → rN 8 b) → mW none (F + 2) mX4_hearer 49 [(0, .ref 32), (1, .int s), (2, .int a), (3, .int b)] [] h (mP (if p_can (sM S) s a b then (if 40 ≤ sM S then (-3, S) else (nI (sM S), p_make S s a b)) else (-2, S)) P X h) := fun hc => by
    refine w_iload_n (q := 50) aX4_hearer_49 rfl rfl ?_
    refine w_iconst (v := 5) (q := 51) aX4_hearer_50 rfl rfl ?_
    refine w_ic_eq (t := 60) (q := 54) aX4_hearer_51 (by decide) rfl (fun c51 => ?_) (fun c51 => ?_)
    · exact t60 (Or.inl c51) hc
    · refine w_iload_n (q := 55) aX4_hearer_54 rfl rfl ?_
      refine w_bipush (v := 6) (q := 57) aX4_hearer_55 rfl rfl ?_
      refine w_ic_ne (t := 67) (q := 60) aX4_hearer_57 (by decide) rfl (fun c57 => ?_) (fun c57 => ?_)
      · exact t67 ⟨hc.1, hc.2.1, hc.2.2, fun z => z.elim (fun y => absurd y c51) (fun y => absurd y c57)⟩
      · exact t60 (Or.inr c57) hc
  have t39 : s = 10 ∨ s = 12 → rN 15 s ∧ (s < 4 → rN 8 a) → mW none (F + 2) mX4_hearer 39 [(0, .ref 32), (1, .int s), (2, .int a), (3, .int b)] [] h (mP (if p_can (sM S) s a b then (if 40 ≤ sM S then (-3, S) else (nI (sM S), p_make S s a b)) else (-2, S)) P X h) := fun hs hc => by
    refine w_iload_n (q := 40) aX4_hearer_39 rfl rfl ?_
    refine w_callS aX4_hearer_40 x_4_93 t_4_93 (rfl) (d_isTally) (fun r40 h40 hp => ?_)
    obtain ⟨rfl, rfl⟩ := hp
    refine w_if_ne (t := 49) (q := 46) aX4_hearer_43 (by decide) rfl (fun c43 => ?_) (fun c43 => ?_)
    · exact t49 ⟨hc.1, hc.2, fun z => bz_ne0 c43⟩
    · exact b46 (fun z => bz_eq0 c43 ((can_ref.mp z).2.2.1 hs))
  have t27 : rN 15 s ∧ (s < 4 → rN 8 a) → mW none (F + 2) mX4_hearer 27 [(0, .ref 32), (1, .int s), (2, .int a), (3, .int b)] [] h (mP (if p_can (sM S) s a b then (if 40 ≤ sM S then (-3, S) else (nI (sM S), p_make S s a b)) else (-2, S)) P X h) := fun hc => by
    refine w_iload_n (q := 28) aX4_hearer_27 rfl rfl ?_
    refine w_bipush (v := 10) (q := 30) aX4_hearer_28 rfl rfl ?_
    refine w_ic_eq (t := 39) (q := 33) aX4_hearer_30 (by decide) rfl (fun c30 => ?_) (fun c30 => ?_)
    · exact t39 (Or.inl c30) hc
    · refine w_iload_n (q := 34) aX4_hearer_33 rfl rfl ?_
      refine w_bipush (v := 12) (q := 36) aX4_hearer_34 rfl rfl ?_
      refine w_ic_ne (t := 49) (q := 39) aX4_hearer_36 (by decide) rfl (fun c36 => ?_) (fun c36 => ?_)
      · exact t49 ⟨hc.1, hc.2, fun z => z.elim (fun y => absurd y c30) (fun y => absurd y c36)⟩
      · exact t39 (Or.inr c36) hc
  refine w_iload_n (q := 1) aX4_hearer_0 rfl rfl ?_
  refine w_i2l (q := 2) aX4_hearer_1 rfl ?_
  refine w_lconst (v := 0) (q := 3) aX4_hearer_2 rfl rfl ?_
  refine w_ldc (q := 6) aX4_hearer_3 l_4_104 rfl ?_
  refine w_callS aX4_hearer_6 x_4_85 t_4_85 (rfl) (d_in) (fun r6 h6 hp => ?_)
  obtain ⟨rfl, rfl⟩ := hp
  have e15 : (¬ s.toInt64 < 0 ∧ s.toInt64 ≤ 14) ↔ rN 15 s := in_rN (n := 15) (by omega) (by decide)
  refine w_if_ne (t := 15) (q := 12) aX4_hearer_9 (by decide) rfl (fun c9 => ?_) (fun c9 => ?_)
  · have h15 := e15.mp (bz_ne0 c9)
    refine w_iload_n (q := 16) aX4_hearer_15 rfl rfl ?_
    refine w_iconst (v := 4) (q := 17) aX4_hearer_16 rfl rfl ?_
    refine w_ic_ge (t := 27) (q := 20) aX4_hearer_17 (by decide) rfl (fun c17 => ?_) (fun c17 => ?_)
    · exact t27 ⟨h15, fun z => absurd z (Int32.not_lt.mpr c17)⟩
    · refine w_iload_n (q := 21) aX4_hearer_20 rfl rfl ?_
      refine w_callS aX4_hearer_21 x_4_93 t_4_93 (rfl) (d_isTally) (fun r21 h21 hp => ?_)
      obtain ⟨rfl, rfl⟩ := hp
      refine w_if_eq (t := 46) (q := 27) aX4_hearer_24 (by decide) rfl (fun c24 => ?_) (fun c24 => ?_)
      · exact b46 (fun z => bz_eq0 c24 ((can_ref.mp z).2.1 (Int32.not_le.mp c17)))
      · exact t27 ⟨h15, fun _ => bz_ne0 c24⟩
  · rw [if_neg (fun z => bz_eq0 c9 (e15.mpr (can_ref.mp z).1))]
    refine w_bipush (v := -2) (q := 14) aX4_hearer_12 rfl rfl ?_
    refine w_iret aX4_hearer_14 rfl ?_
    exact ⟨rfl, hR0, fr.rf⟩
end
section
/-- how the reference stands at an end -/
def Xe (e : Int32) (u : Int64) : Xs := if e = 7 then (0, 1, -1, u) else (e, 0, -1, u)
def Xb (o : Option Nat) (v u : Int64) : Xs := match o with
  | none => (3, 0, -1, u)
  | some k => (0, 0, nI k, v)
theorem d_begins {F : Nat} {h : mm_H} {S : St} {P : List Fr} {o : Option Nat} {v u : Int64} (ho : ∀ k, o = some k → k < 2 ^ 31) (hR : RM S P (0, 0, -1, u) h) : mW none F mX4_begins 0 [(0, .ref 32), (1, .int (oI o)), (2, .long v)] [] h (fun r h' => r = none ∧ RM S P (Xb o v u) h' ∧ fr AM h h') := by
  obtain ⟨w, hm, r1, r2, r3, r4⟩ := hR
  refine w_iload_n (q := 1) aX4_begins_0 rfl rfl ?_
  refine w_iconst (v := -1) (q := 2) aX4_begins_1 rfl rfl ?_
  refine w_ic_ne (t := 11) (q := 5) aX4_begins_2 (by decide) rfl (fun c2 => ?_) (fun c2 => ?_)
  · cases o with
    | none => exact absurd rfl c2
    | some k =>
      refine w_aload_n (q := 12) aX4_begins_11 rfl rfl ?_
      refine w_iload_n (q := 13) aX4_begins_12 rfl rfl ?_
      refine w_put (q := 16) (fs' := [_, _, _, _, _, _, _, _, _, _, _, _, _, _, _, _, _, _, _, _, _, _, _, _, _, _, _, _, _, _, _]) aX4_begins_13 f_4_133 (hm 32 (by decide) (by decide)) (Nat.le_of_ble_eq_true rfl) rfl rfl (Or.inl rfl) rfl rfl ?_
      refine w_aload_n (q := 17) aX4_begins_16 rfl rfl ?_
      refine w_lload_n (q := 18) aX4_begins_17 rfl rfl ?_
      refine w_put (q := 21) (fs' := [_, _, _, _, _, _, _, _, _, _, _, _, _, _, _, _, _, _, _, _, _, _, _, _, _, _, _, _, _, _, _]) aX4_begins_18 f_4_136 (up_s _ _ _) (Nat.le_of_ble_eq_true rfl) rfl rfl (Or.inl rfl) rfl rfl ?_
      refine w_vret aX4_begins_21 rfl ?_
      refine ⟨rfl, ⟨w, ?_, r1, r2, r3, r4⟩, (fr.rf.up (AM_l (by omega))).up (AM_l (by omega))⟩
      intro q h1 h2
      rcases q23 q h1 h2 with rfl | rfl | rfl | rfl | rfl | rfl | rfl | rfl | rfl | rfl | rfl | rfl | rfl | rfl | rfl | rfl | rfl | rfl | rfl | rfl | rfl | rfl | rfl <;> first | exact hm _ h1 h2 |  rfl
  · have := (oI_m1 ho).mp c2
    subst this
    refine w_aload_n (q := 6) aX4_begins_5 rfl rfl ?_
    refine w_iconst (v := 3) (q := 7) aX4_begins_6 rfl rfl ?_
    refine w_put (q := 10) (fs' := [_, _, _, _, _, _, _, _, _, _, _, _, _, _, _, _, _, _, _, _, _, _, _, _, _, _, _, _, _, _, _]) aX4_begins_7 f_4_126 (hm 32 (by decide) (by decide)) (Nat.le_of_ble_eq_true rfl) rfl rfl (Or.inl rfl) rfl rfl ?_
    refine w_vret aX4_begins_10 rfl ?_
    refine ⟨rfl, ⟨w, ?_, r1, r2, r3, r4⟩, fr.rf.up (AM_l (by omega))⟩
    intro q h1 h2
    rcases q23 q h1 h2 with rfl | rfl | rfl | rfl | rfl | rfl | rfl | rfl | rfl | rfl | rfl | rfl | rfl | rfl | rfl | rfl | rfl | rfl | rfl | rfl | rfl | rfl | rfl <;> first | exact hm _ h1 h2 |  rfl
theorem d_ready {F : Nat} {h : mm_H} {S : St} {P : List Fr} {X : Xs} (hR : RM S P X h) : mW none F mX4_ready 0 [(0, .ref 32)] [] h (fun r h' => r = none ∧ RM (uS (uD S 0) 0) [] (0, 0, -1, X.2.2.2) h' ∧ fr AM h h') := by
  obtain ⟨w, hm, r1, r2, r3, r4⟩ := hR
  refine w_aload_n (q := 1) aX4_ready_0 rfl rfl ?_
  refine w_iconst (v := 0) (q := 2) aX4_ready_1 rfl rfl ?_
  refine w_put (q := 5) (fs' := [_, _, _, _, _, _, _, _, _, _, _, _, _, _, _, _, _, _, _, _, _, _, _, _, _, _, _, _, _, _, _]) aX4_ready_2 f_4_120 (hm 32 (by decide) (by decide)) (Nat.le_of_ble_eq_true rfl) rfl rfl (Or.inl rfl) rfl rfl ?_
  refine w_aload_n (q := 6) aX4_ready_5 rfl rfl ?_
  refine w_iconst (v := 0) (q := 7) aX4_ready_6 rfl rfl ?_
  refine w_put (q := 10) (fs' := [_, _, _, _, _, _, _, _, _, _, _, _, _, _, _, _, _, _, _, _, _, _, _, _, _, _, _, _, _, _, _]) aX4_ready_7 f_4_123 (up_s _ _ _) (Nat.le_of_ble_eq_true rfl) rfl rfl (Or.inl rfl) rfl rfl ?_
  refine w_aload_n (q := 11) aX4_ready_10 rfl rfl ?_
  refine w_iconst (v := 0) (q := 12) aX4_ready_11 rfl rfl ?_
  refine w_put (q := 15) (fs' := [_, _, _, _, _, _, _, _, _, _, _, _, _, _, _, _, _, _, _, _, _, _, _, _, _, _, _, _, _, _, _]) aX4_ready_12 f_4_140 (up_s _ _ _) (Nat.le_of_ble_eq_true rfl) rfl rfl (Or.inl rfl) rfl rfl ?_
  refine w_aload_n (q := 16) aX4_ready_15 rfl rfl ?_
  refine w_iconst (v := 0) (q := 17) aX4_ready_16 rfl rfl ?_
  refine w_put (q := 20) (fs' := [_, _, _, _, _, _, _, _, _, _, _, _, _, _, _, _, _, _, _, _, _, _, _, _, _, _, _, _, _, _, _]) aX4_ready_17 f_4_126 (up_s _ _ _) (Nat.le_of_ble_eq_true rfl) rfl rfl (Or.inl rfl) rfl rfl ?_
  refine w_aload_n (q := 21) aX4_ready_20 rfl rfl ?_
  refine w_iconst (v := 0) (q := 22) aX4_ready_21 rfl rfl ?_
  refine w_put (q := 25) (fs' := [_, _, _, _, _, _, _, _, _, _, _, _, _, _, _, _, _, _, _, _, _, _, _, _, _, _, _, _, _, _, _]) aX4_ready_22 f_4_150 (up_s _ _ _) (Nat.le_of_ble_eq_true rfl) rfl rfl (Or.inl rfl) rfl rfl ?_
  refine w_aload_n (q := 26) aX4_ready_25 rfl rfl ?_
  refine w_iconst (v := -1) (q := 27) aX4_ready_26 rfl rfl ?_
  refine w_put (q := 30) (fs' := [_, _, _, _, _, _, _, _, _, _, _, _, _, _, _, _, _, _, _, _, _, _, _, _, _, _, _, _, _, _, _]) aX4_ready_27 f_4_133 (up_s _ _ _) (Nat.le_of_ble_eq_true rfl) rfl rfl (Or.inl rfl) rfl rfl ?_
  refine w_vret aX4_ready_30 rfl ?_
  refine ⟨rfl, ⟨w, ?_, r1, r2, r3, fun p f hp => by cases hp⟩, (((((fr.rf.up (AM_l (by omega))).up (AM_l (by omega))).up (AM_l (by omega))).up (AM_l (by omega))).up (AM_l (by omega))).up (AM_l (by omega))⟩
  intro q h1 h2
  rcases q23 q h1 h2 with rfl | rfl | rfl | rfl | rfl | rfl | rfl | rfl | rfl | rfl | rfl | rfl | rfl | rfl | rfl | rfl | rfl | rfl | rfl | rfl | rfl | rfl | rfl <;> first | exact hm _ h1 h2 |  rfl
/-- the rows once a frame lies on the pile of n -/
def hw (w : Raw) (n : Nat) (s i : Int32) (v : Int64) : Raw := (w.1, w.2.1, w.2.2.1, w.2.2.2.1, fu w.2.2.2.2.1 n s, fu w.2.2.2.2.2.1 n i, fu w.2.2.2.2.2.2.1 n v, fu w.2.2.2.2.2.2.2.1 n 0, fu w.2.2.2.2.2.2.2.2.1 n 0, w.2.2.2.2.2.2.2.2.2)
theorem d_heap {F : Nat} {h : mm_H} {S : St} {n : Nat} {X : Xs} {w : Raw} {s i : Int32} {v : Int64} (hn : n < 600) (hm : hM S n X w h) : mW none F mX4_heap 0 [(0, .ref 32), (1, .int s), (2, .int i), (3, .long v)] [] h (fun r h' => r = none ∧ hM S (n + 1) X (hw w n s i v) h' ∧ fr AM h h') := by
  have m32 := hm 32 (by decide) (by decide)
  refine w_aload_n (q := 1) aX4_heap_0 rfl rfl ?_
  refine w_get (q := 4) aX4_heap_1 f_4_56 (m32) rfl rfl ?_
  refine w_aload_n (q := 5) aX4_heap_4 rfl rfl ?_
  refine w_get (q := 8) aX4_heap_5 f_4_120 (m32) rfl rfl ?_
  refine w_iload_n (q := 9) aX4_heap_8 rfl rfl ?_
  refine w_iast (q := 10) (n := n) (vs' := _) aX4_heap_9 (hm 48 (by decide) (by decide)) (rfl) (by rw [rg_len]; omega) (by rw [rg_len]; omega) (rg_set _ _ _ _) rfl ?_
  refine w_aload_n (q := 11) aX4_heap_10 rfl rfl ?_
  refine w_get (q := 14) aX4_heap_11 f_4_59 ((up_n (by decide)).trans m32) rfl rfl ?_
  refine w_aload_n (q := 15) aX4_heap_14 rfl rfl ?_
  refine w_get (q := 18) aX4_heap_15 f_4_120 ((up_n (by decide)).trans m32) rfl rfl ?_
  refine w_iload_n (q := 19) aX4_heap_18 rfl rfl ?_
  refine w_iast (q := 20) (n := n) (vs' := _) aX4_heap_19 ((up_n (by decide)).trans (hm 49 (by decide) (by decide))) (rfl) (by rw [rg_len]; omega) (by rw [rg_len]; omega) (rg_set _ _ _ _) rfl ?_
  refine w_aload_n (q := 21) aX4_heap_20 rfl rfl ?_
  refine w_get (q := 24) aX4_heap_21 f_4_62 (m32) rfl rfl ?_
  refine w_aload_n (q := 25) aX4_heap_24 rfl rfl ?_
  refine w_get (q := 28) aX4_heap_25 f_4_120 (m32) rfl rfl ?_
  refine w_lload_n (q := 29) aX4_heap_28 rfl rfl ?_
  refine w_last (q := 30) (n := n) (vs' := _) aX4_heap_29 (hm 50 (by decide) (by decide)) (rfl) (by rw [rg_len]; omega) (by rw [rg_len]; omega) (rg_set _ _ _ _) rfl ?_
  refine w_aload_n (q := 31) aX4_heap_30 rfl rfl ?_
  refine w_get (q := 34) aX4_heap_31 f_4_65 (m32) rfl rfl ?_
  refine w_aload_n (q := 35) aX4_heap_34 rfl rfl ?_
  refine w_get (q := 38) aX4_heap_35 f_4_120 (m32) rfl rfl ?_
  refine w_iconst (v := 0) (q := 39) aX4_heap_38 rfl rfl ?_
  refine w_iast (q := 40) (n := n) (vs' := _) aX4_heap_39 (hm 51 (by decide) (by decide)) (rfl) (by rw [rg_len]; omega) (by rw [rg_len]; omega) (rg_set _ _ _ _) rfl ?_
  refine w_aload_n (q := 41) aX4_heap_40 rfl rfl ?_
  refine w_get (q := 44) aX4_heap_41 f_4_68 (m32) rfl rfl ?_
  refine w_aload_n (q := 45) aX4_heap_44 rfl rfl ?_
  refine w_get (q := 48) aX4_heap_45 f_4_120 (m32) rfl rfl ?_
  refine w_iconst (v := 0) (q := 49) aX4_heap_48 rfl rfl ?_
  refine w_iast (q := 50) (n := n) (vs' := _) aX4_heap_49 (hm 52 (by decide) (by decide)) (rfl) (by rw [rg_len]; omega) (by rw [rg_len]; omega) (rg_set _ _ _ _) rfl ?_
  refine w_aload_n (q := 51) aX4_heap_50 rfl rfl ?_
  refine w_dup (q := 52) aX4_heap_51 rfl rfl ?_
  refine w_get (q := 55) aX4_heap_52 f_4_120 (m32) rfl rfl ?_
  refine w_iconst (v := 1) (q := 56) aX4_heap_55 rfl rfl ?_
  refine w_iadd (q := 57) aX4_heap_56 rfl ?_
  refine w_put (q := 60) (fs' := [_, _, _, _, _, _, _, _, _, _, _, _, _, _, _, _, _, _, _, _, _, _, _, _, _, _, _, _, _, _, _]) aX4_heap_57 f_4_120 (m32) (Nat.le_of_ble_eq_true rfl) rfl rfl (Or.inl rfl) rfl rfl ?_
  refine w_vret aX4_heap_60 rfl ?_
  have f48 : fu (fun j => Value.int (w.2.2.2.2.1 j)) n (.int s) = fun j => Value.int (fu w.2.2.2.2.1 n s j) := fu_map Value.int _ _ s
  have f49 : fu (fun j => Value.int (w.2.2.2.2.2.1 j)) n (.int i) = fun j => Value.int (fu w.2.2.2.2.2.1 n i j) := fu_map Value.int _ _ i
  have f50 : fu (fun j => Value.long (w.2.2.2.2.2.2.1 j)) n (.long v) = fun j => Value.long (fu w.2.2.2.2.2.2.1 n v j) := fu_map Value.long _ _ v
  have f51 : fu (fun j => Value.int (w.2.2.2.2.2.2.2.1 j)) n (.int 0) = fun j => Value.int (fu w.2.2.2.2.2.2.2.1 n 0 j) := fu_map Value.int _ _ 0
  have f52 : fu (fun j => Value.int (w.2.2.2.2.2.2.2.2.1 j)) n (.int 0) = fun j => Value.int (fu w.2.2.2.2.2.2.2.2.1 n 0 j) := fu_map Value.int _ _ 0
  have e32 : moL S (n + 1) X = [.ref 33, .ref 34, .ref 35, .ref 36, .int (nI (sM S)), .ref 37, .ref 38, .ref 39, .ref 40, .ref 41, .ref 42, .ref 43, .ref 44, .ref 45, .ref 46, .ref 47, .int (nI (sQ S).length), .int (nI n + 1), .ref 48, .ref 49, .ref 50, .ref 51, .ref 52, .ref 53, .int (nI (sD S)), .int (nI (sS S)), .int X.1, .int X.2.1, .int X.2.2.1, .long X.2.2.2, .ref 54] := by rw [nI_1]; rfl
  refine ⟨rfl, ?_, (((((fr.rf.up (AM_l (by omega))).up (AM_l (by omega))).up (AM_l (by omega))).up (AM_l (by omega))).up (AM_l (by omega))).up (AM_l (by omega))⟩
  intro q h1 h2
  rcases q23 q h1 h2 with rfl | rfl | rfl | rfl | rfl | rfl | rfl | rfl | rfl | rfl | rfl | rfl | rfl | rfl | rfl | rfl | rfl | rfl | rfl | rfl | rfl | rfl | rfl <;> first | exact hm _ h1 h2 | exact congrArg (fun z => some ((4 : Nat), z)) e32.symm | exact congrArg (fun z => some ((5 : Nat), rg 600 z)) f48 | exact congrArg (fun z => some ((5 : Nat), rg 600 z)) f49 | exact congrArg (fun z => some ((6 : Nat), rg 600 z)) f50 | exact congrArg (fun z => some ((5 : Nat), rg 600 z)) f51 | exact congrArg (fun z => some ((5 : Nat), rg 600 z)) f52 |  rfl
theorem rPi.push {P : List Fr} {w : Raw} {s i : Int32} {v : Int64} (hs : ¬ s = 0) (h : rPi P w) : rPi (P ++ [(s, i, v, [], 0)]) (hw w P.length s i v) := by
  intro p f hp
  by_cases e : p < P.length
  · rw [List.getElem?_append_left e] at hp
    obtain ⟨g1, g2, g3, g4⟩ := h p f hp
    refine ⟨(fu_n (by omega)).trans g1, (fu_n (by omega)).trans g2, (fu_n (by omega)).trans g3, fun z => ?_⟩
    obtain ⟨k1, k2, k3, k4⟩ := g4 z
    exact ⟨(fu_n (by omega)).trans k1, (fu_n (by omega)).trans k2, k3, k4⟩
  · have e2 : p = P.length := by
      have := (List.getElem?_eq_some_iff.mp hp).1
      simp at this
      omega
    subst e2
    simp at hp
    subst hp
    exact ⟨fu_s, fu_s, fu_s, fun z => absurd z hs⟩
/-- the pile's last frame is taken off -/
theorem rPi.pop {P : List Fr} {w : Raw} {f : Fr} (h : rPi (P ++ [f]) w) : rPi P w := fun p g hp => h p g (by rw [List.getElem?_append_left (List.getElem?_eq_some_iff.mp hp).1]; exact hp)
theorem rPi.top {P : List Fr} {w : Raw} {f : Fr} (h : rPi (P ++ [f]) w) : w.2.2.2.2.1 P.length = f.1 ∧ w.2.2.2.2.2.1 P.length = f.2.1 ∧ w.2.2.2.2.2.2.1 P.length = f.2.2.1 ∧ (f.1 = 0 → w.2.2.2.2.2.2.2.1 P.length = nI f.2.2.2.2 ∧ w.2.2.2.2.2.2.2.2.1 P.length = nI f.2.2.2.1.length ∧ f.2.2.2.1.length ≤ 12 ∧ ∀ i x, f.2.2.2.1[i]? = some x → w.2.2.2.2.2.2.2.2.2 (12 * P.length + i) = x) := h P.length f (by simp)
end
section
def wg (w : Raw) (g : Nat → Int32) : Raw := (w.1, w.2.1, w.2.2.1, w.2.2.2.1, w.2.2.2.2.1, w.2.2.2.2.2.1, w.2.2.2.2.2.2.1, w.2.2.2.2.2.2.2.1, w.2.2.2.2.2.2.2.2.1, g)
theorem f54 {S : St} {c : Nat} {x : Int32} (hc : ¬ c = 0) : fu (fun j => Value.int (if j = 0 then nI (sM S) else sC S j)) c (.int x) = fun j => Value.int (if j = 0 then nI (sM S) else fu (sC S) c x j) := by
  funext j
  unfold fu
  by_cases e : j = c
  · subst e
    simp [hc]
  · simp [e]
theorem m_rings {F : Nat} {S : St} {n k : Nat} {X : Xs} {v : Int64} {w : Raw} {h0 : mm_H} {g0 : Nat → Int32} (hn : n < 600) (hk : k < 6) (r1 : rLn S w.1) : ∀ (m i : Nat) (g : Nat → Int32) (h : mm_H), m + i = (sL S k).length → hM S (n + 1) X (wg w g) h → (∀ j x, j < i → (sL S k)[j]? = some x → g (12 * n + j) = x) → (∀ j, j < 12 * n → g j = g0 j) → fr AM h0 h → mW none F mX4_rings 62 [(4, .int (nI i)), (0, .ref 32), (1, .int (nI k)), (2, .long v)] [] h (fun r h' => r = none ∧ fr AM h0 h' ∧ ∃ g', hM S (n + 1) X (wg w g') h' ∧ (∀ j x, (sL S k)[j]? = some x → g' (12 * n + j) = x) ∧ (∀ j, j < 12 * n → g' j = g0 j)) := by
  obtain ⟨hl12, hnd, hat⟩ := r1 k hk
  intro m
  induction m with
  | zero =>
    intro i g h hmi hm g1 g2 hf
    obtain rfl : i = (sL S k).length := by omega
    refine w_iload (q := 64) aX4_rings_62 rfl rfl ?_
    refine w_aload_n (q := 65) aX4_rings_64 rfl rfl ?_
    refine w_get (q := 68) aX4_rings_65 f_4_20 (hm 32 (by decide) (by decide)) rfl rfl ?_
    refine w_iload_n (q := 69) aX4_rings_68 rfl rfl ?_
    refine w_iald (q := 70) aX4_rings_69 (by decide) (hm 36 (by decide) (by decide)) (mm_ix_at (n := k) rfl (by omega) (rg_at hk)) rfl ?_
    refine w_ic_ge (t := 108) (q := 73) aX4_rings_70 (by decide) rfl (fun c70 => ?_) (fun c70 => ?_)
    · refine w_vret aX4_rings_108 rfl ?_
      exact ⟨rfl, hf, g, hm, fun j x hj => g1 j x (List.getElem?_eq_some_iff.mp hj).1 hj, g2⟩
    · exact absurd (nI_le (Nat.le_refl _) (by omega)) c70
  | succ m ih =>
    intro i g h hmi hm g1 g2 hf
    refine w_iload (q := 64) aX4_rings_62 rfl rfl ?_
    refine w_aload_n (q := 65) aX4_rings_64 rfl rfl ?_
    refine w_get (q := 68) aX4_rings_65 f_4_20 (hm 32 (by decide) (by decide)) rfl rfl ?_
    refine w_iload_n (q := 69) aX4_rings_68 rfl rfl ?_
    refine w_iald (q := 70) aX4_rings_69 (by decide) (hm 36 (by decide) (by decide)) (mm_ix_at (n := k) rfl (by omega) (rg_at hk)) rfl ?_
    refine w_ic_ge (t := 108) (q := 73) aX4_rings_70 (by decide) rfl (fun c70 => ?_) (fun c70 => ?_)
    · exact absurd c70 (nI_ge (by omega) (by omega))
    · refine w_aload_n (q := 74) aX4_rings_73 rfl rfl ?_
      refine w_get (q := 77) aX4_rings_74 f_4_71 (hm 32 (by decide) (by decide)) rfl rfl ?_
      refine w_bipush (v := 12) (q := 79) aX4_rings_77 rfl rfl ?_
      refine w_aload_n (q := 80) aX4_rings_79 rfl rfl ?_
      refine w_get (q := 83) aX4_rings_80 f_4_120 (hm 32 (by decide) (by decide)) rfl rfl ?_
      refine w_iconst (v := 1) (q := 84) aX4_rings_83 rfl rfl ?_
      refine w_isub (q := 85) aX4_rings_84 rfl ?_
      refine w_imul (q := 86) aX4_rings_85 rfl ?_
      refine w_iload (q := 88) aX4_rings_86 rfl rfl ?_
      refine w_iadd (q := 89) aX4_rings_88 rfl ?_
      refine w_aload_n (q := 90) aX4_rings_89 rfl rfl ?_
      rw [nI_pred, m12]
      refine w_get (q := 93) aX4_rings_90 f_4_17 (hm 32 (by decide) (by decide)) rfl rfl ?_
      refine w_bipush (v := 12) (q := 95) aX4_rings_93 rfl rfl ?_
      refine w_iload_n (q := 96) aX4_rings_95 rfl rfl ?_
      refine w_imul (q := 97) aX4_rings_96 rfl ?_
      refine w_iload (q := 99) aX4_rings_97 rfl rfl ?_
      refine w_iadd (q := 100) aX4_rings_99 rfl ?_
      rw [m12]
      refine w_iald (q := 101) aX4_rings_100 (by decide) (hm 35 (by decide) (by decide)) (mm_ix_at (n := 12 * k + i) rfl (by omega) (rg_at (by omega))) rfl ?_
      refine w_iast (q := 102) (n := 12 * n + i) (vs' := _) aX4_rings_101 (hm 53 (by decide) (by decide)) (rfl) (by rw [rg_len]; omega) (by rw [rg_len]; omega) (rg_set _ _ _ _) rfl ?_
      refine w_iinc (q := 105) (ls' := [(4, _), (0, _), (1, _), (2, _)]) aX4_rings_102 rfl rfl (by decide) rfl rfl ?_
      refine w_goto (t := 62) aX4_rings_105 (by decide) ?_
      rw [show nI i + Int32.ofInt 1 = nI (i + 1) from nI_1 i]
      refine ih (i + 1) (fu g (12 * n + i) (w.1 (12 * k + i))) _ (by omega) (hm.up (congrArg (fun z => ((5 : Nat), rg 7200 z)) (fu_map Value.int g _ _)) (fun q h1 h2 h3 => ?_)) (fun j x hj hx => ?_) (fun j hj => (fu_n (by omega)).trans (g2 j hj)) (hf.up (AM_l (by omega)))
      · rcases q23 q h1 h2 with rfl | rfl | rfl | rfl | rfl | rfl | rfl | rfl | rfl | rfl | rfl | rfl | rfl | rfl | rfl | rfl | rfl | rfl | rfl | rfl | rfl | rfl | rfl <;> first | exact absurd rfl h3 | rfl
      · by_cases e : j = i
        · subst e
          rw [fu_s]
          exact hat j x hx
        · rw [fu_n (by omega)]
          exact g1 j x (by omega) hx
/-- what rings leaves -/
def r_rings (S : St) (k : Nat) (v u : Int64) (P : List Fr) : St × List Fr × Xs := if 8 ≤ sD S then (S, P, Xe 5 u) else (uC (uD S (sD S + 1)) (inc (sC S) 2), P ++ [(0, nI k, v, sL S k, 0)], (0, 0, -1, u))
theorem d_rings {F : Nat} {h : mm_H} {S : St} {P : List Fr} {k : Nat} {v u : Int64} (hn : P.length < 600) (hk : k < 6) (hd : sD S ≤ 8) (hR : RM S P (0, 0, -1, u) h) : mW none (F + 1) mX4_rings 0 [(0, .ref 32), (1, .int (nI k)), (2, .long v)] [] h (fun r h' => r = none ∧ RM (r_rings S k v u P).1 (r_rings S k v u P).2.1 (r_rings S k v u P).2.2 h' ∧ fr AM h h') := by
  obtain ⟨w, hm, r1, r2, r3, r4⟩ := hR
  unfold r_rings
  refine w_aload_n (q := 1) aX4_rings_0 rfl rfl ?_
  refine w_get (q := 4) aX4_rings_1 f_4_123 (hm 32 (by decide) (by decide)) rfl rfl ?_
  refine w_bipush (v := 8) (q := 6) aX4_rings_4 rfl rfl ?_
  refine w_ic_ne (t := 15) (q := 9) aX4_rings_6 (by decide) rfl (fun c6 => ?_) (fun c6 => ?_)
  · have hlt : sD S < 8 := Nat.lt_of_le_of_ne hd (fun z => c6 (by show nI (sD S) = 8; rw [z]; rfl))
    rw [if_neg (by omega)]
    refine w_aload_n (q := 16) aX4_rings_15 rfl rfl ?_
    refine w_dup (q := 17) aX4_rings_16 rfl rfl ?_
    refine w_get (q := 20) aX4_rings_17 f_4_123 (hm 32 (by decide) (by decide)) rfl rfl ?_
    refine w_iconst (v := 1) (q := 21) aX4_rings_20 rfl rfl ?_
    refine w_iadd (q := 22) aX4_rings_21 rfl ?_
    refine w_put (q := 25) (fs' := [_, _, _, _, _, _, _, _, _, _, _, _, _, _, _, _, _, _, _, _, _, _, _, _, _, _, _, _, _, _, _]) aX4_rings_22 f_4_123 (hm 32 (by decide) (by decide)) (Nat.le_of_ble_eq_true rfl) rfl rfl (Or.inl rfl) rfl rfl ?_
    refine w_aload_n (q := 26) aX4_rings_25 rfl rfl ?_
    refine w_get (q := 29) aX4_rings_26 f_4_74 (up_s _ _ _) rfl rfl ?_
    refine w_iconst (v := 2) (q := 30) aX4_rings_29 rfl rfl ?_
    refine w_dup2 (q := 31) aX4_rings_30 ⟨rfl, rfl⟩ rfl ?_
    refine w_iald (q := 32) aX4_rings_31 (by decide) ((up_n (by decide)).trans (hm 54 (by decide) (by decide))) (mm_ix_at (n := 2) rfl (by omega) (rg_at (by omega))) rfl ?_
    refine w_iconst (v := 1) (q := 33) aX4_rings_32 rfl rfl ?_
    refine w_iadd (q := 34) aX4_rings_33 rfl ?_
    refine w_iast (q := 35) (n := 2) (vs' := _) aX4_rings_34 ((up_n (by decide)).trans (hm 54 (by decide) (by decide))) (rfl) (by rw [rg_len]; omega) (by rw [rg_len]; omega) (rg_set _ _ _ _) rfl ?_
    have e32 : moL (uC (uD S (sD S + 1)) (inc (sC S) 2)) P.length (0, 0, -1, u) = [.ref 33, .ref 34, .ref 35, .ref 36, .int (nI (sM S)), .ref 37, .ref 38, .ref 39, .ref 40, .ref 41, .ref 42, .ref 43, .ref 44, .ref 45, .ref 46, .ref 47, .int (nI (sQ S).length), .int (nI P.length), .ref 48, .ref 49, .ref 50, .ref 51, .ref 52, .ref 53, .int (nI (sD S) + 1), .int (nI (sS S)), .int 0, .int 0, .int (-1), .long u, .ref 54] := by rw [nI_1]; rfl
    have hm2 : hM (uC (uD S (sD S + 1)) (inc (sC S) 2)) P.length (0, 0, -1, u) w (mm_up (mm_up h 32 (4, [.ref 33, .ref 34, .ref 35, .ref 36, .int (nI (sM S)), .ref 37, .ref 38, .ref 39, .ref 40, .ref 41, .ref 42, .ref 43, .ref 44, .ref 45, .ref 46, .ref 47, .int (nI (sQ S).length), .int (nI P.length), .ref 48, .ref 49, .ref 50, .ref 51, .ref 52, .ref 53, .int (nI (sD S) + 1), .int (nI (sS S)), .int 0, .int 0, .int (-1), .long u, .ref 54])) 54 (5, rg 10 (fu (fun j => Value.int (if j = 0 then nI (sM S) else sC S j)) 2 (.int (sC S 2 + 1))))) := by
      intro q h1 h2
      rcases q23 q h1 h2 with rfl | rfl | rfl | rfl | rfl | rfl | rfl | rfl | rfl | rfl | rfl | rfl | rfl | rfl | rfl | rfl | rfl | rfl | rfl | rfl | rfl | rfl | rfl <;> first | exact hm _ h1 h2 | exact congrArg (fun z => some ((4 : Nat), z)) e32.symm | exact congrArg (fun z => some ((5 : Nat), rg 10 z)) (f54 (by decide)) |  rfl
    refine w_aload_n (q := 36) aX4_rings_35 rfl rfl ?_
    refine w_iconst (v := 0) (q := 37) aX4_rings_36 rfl rfl ?_
    refine w_iload_n (q := 38) aX4_rings_37 rfl rfl ?_
    refine w_lload_n (q := 39) aX4_rings_38 rfl rfl ?_
    refine w_callV aX4_rings_39 t_4_129 (this_at rfl (hm2 32 (by decide) (by decide))) (rfl) (d_heap hn hm2) (fun r39 h39 hp => ?_)
    obtain ⟨rfl, hm3, hf3⟩ := hp
    refine w_aload_n (q := 43) aX4_rings_42 rfl rfl ?_
    refine w_get (q := 46) aX4_rings_43 f_4_68 (hm3 32 (by decide) (by decide)) rfl rfl ?_
    refine w_aload_n (q := 47) aX4_rings_46 rfl rfl ?_
    refine w_get (q := 50) aX4_rings_47 f_4_120 (hm3 32 (by decide) (by decide)) rfl rfl ?_
    refine w_iconst (v := 1) (q := 51) aX4_rings_50 rfl rfl ?_
    refine w_isub (q := 52) aX4_rings_51 rfl ?_
    refine w_aload_n (q := 53) aX4_rings_52 rfl rfl ?_
    rw [nI_pred]
    refine w_get (q := 56) aX4_rings_53 f_4_20 (hm3 32 (by decide) (by decide)) rfl rfl ?_
    refine w_iload_n (q := 57) aX4_rings_56 rfl rfl ?_
    refine w_iald (q := 58) aX4_rings_57 (by decide) (hm3 36 (by decide) (by decide)) (mm_ix_at (n := k) rfl (by omega) (rg_at hk)) rfl ?_
    refine w_iast (q := 59) (n := P.length) (vs' := _) aX4_rings_58 (hm3 52 (by decide) (by decide)) (rfl) (by rw [rg_len]; omega) (by rw [rg_len]; omega) (rg_set _ _ _ _) rfl ?_
    refine w_iconst (v := 0) (q := 60) aX4_rings_59 rfl rfl ?_
    refine w_istore (q := 62) (ls' := [(4, _), (0, _), (1, _), (2, _)]) aX4_rings_60 (by decide) rfl rfl ?_
    let w2 : Raw := (w.1, w.2.1, w.2.2.1, w.2.2.2.1, fu w.2.2.2.2.1 P.length 0, fu w.2.2.2.2.2.1 P.length (nI k), fu w.2.2.2.2.2.2.1 P.length v, fu w.2.2.2.2.2.2.2.1 P.length 0, fu (fu w.2.2.2.2.2.2.2.2.1 P.length 0) P.length (nI (sL S k).length), w.2.2.2.2.2.2.2.2.2)
    have hm4 : hM (uC (uD S (sD S + 1)) (inc (sC S) 2)) (P.length + 1) (0, 0, -1, u) (wg w2 w.2.2.2.2.2.2.2.2.2) (mm_up h39 52 (5, rg 600 (fu (fun j => Value.int (fu w.2.2.2.2.2.2.2.2.1 P.length 0 j)) P.length (.int (nI (sL S k).length))))) := by
      refine hm3.up (congrArg (fun z => ((5 : Nat), rg 600 z)) (fu_map Value.int _ _ (nI (sL S k).length))) (fun q h1 h2 h3 => ?_)
      rcases q23 q h1 h2 with rfl | rfl | rfl | rfl | rfl | rfl | rfl | rfl | rfl | rfl | rfl | rfl | rfl | rfl | rfl | rfl | rfl | rfl | rfl | rfl | rfl | rfl | rfl <;> first | exact absurd rfl h3 | rfl
    have k9 := m_rings (F := F + 1) (v := v) (S := uC (uD S (sD S + 1)) (inc (sC S) 2)) (w := w2) (g0 := w.2.2.2.2.2.2.2.2.2) (h0 := h) hn hk r1 (sL S k).length 0 w.2.2.2.2.2.2.2.2.2 _ rfl hm4 (fun j x hj => absurd hj (Nat.not_lt_zero _)) (fun j hj => rfl) ((((fr.rf.up (AM_l (by omega))).up (AM_l (by omega))).tr hf3).up (AM_l (by omega)))
    refine mW.imp k9 (fun r h' hp => ?_)
    · obtain ⟨rfl, hf, g', hm4, k1, k2⟩ := hp
      refine ⟨rfl, ⟨wg w2 g', ?_, r1, r2, r3, ?_⟩, hf⟩
      · show hM _ (P ++ [(0, nI k, v, sL S k, 0)]).length _ _ _
        rw [List.length_append]
        exact hm4
      · intro p f hp
        by_cases e : p < P.length
        · rw [List.getElem?_append_left e] at hp
          obtain ⟨g1, g2, g3, g4⟩ := r4 p f hp
          refine ⟨(fu_n (by omega)).trans g1, (fu_n (by omega)).trans g2, (fu_n (by omega)).trans g3, fun z => ?_⟩
          obtain ⟨k3, k4, k5, k6⟩ := g4 z
          refine ⟨(fu_n (by omega)).trans k3, (fu_n (by omega)).trans ((fu_n (by omega)).trans k4), k5, fun i x hx => (k2 _ ?_).trans (k6 i x hx)⟩
          have := (List.getElem?_eq_some_iff.mp hx).1
          omega
        · have e2 : p = P.length := by
            have := (List.getElem?_eq_some_iff.mp hp).1
            simp at this
            omega
          subst e2
          simp at hp
          subst hp
          exact ⟨fu_s, fu_s, fu_s, fun z => ⟨fu_s, fu_s, (r1 k hk).1, fun i x hx => k1 i x hx⟩⟩
  · have hge : sD S = 8 := (nI_iff (b := 8) (by omega) (by omega)).mp c6
    rw [if_pos (by omega)]
    refine w_aload_n (q := 10) aX4_rings_9 rfl rfl ?_
    refine w_iconst (v := 5) (q := 11) aX4_rings_10 rfl rfl ?_
    refine w_put (q := 14) (fs' := [_, _, _, _, _, _, _, _, _, _, _, _, _, _, _, _, _, _, _, _, _, _, _, _, _, _, _, _, _, _, _]) aX4_rings_11 f_4_126 (hm 32 (by decide) (by decide)) (Nat.le_of_ble_eq_true rfl) rfl rfl (Or.inl rfl) rfl rfl ?_
    refine w_vret aX4_rings_14 rfl ?_
    refine ⟨rfl, ⟨w, ?_, r1, r2, r3, r4⟩, fr.rf.up (AM_l (by omega))⟩
    intro q h1 h2
    rcases q23 q h1 h2 with rfl | rfl | rfl | rfl | rfl | rfl | rfl | rfl | rfl | rfl | rfl | rfl | rfl | rfl | rfl | rfl | rfl | rfl | rfl | rfl | rfl | rfl | rfl <;> first | exact hm _ h1 h2 |  rfl
end
section
/-- what the failure e meets on the pile, its top first -/
def r_fails : List Fr → St → Int32 → Int32 × St × List Fr
  | [], S, e => (e, S, [])
  | f :: Q, S, e => if m_met e ∧ f.1 = 0 ∧ sW S f.2.1.toNatClampNeg = 1 then (0, uC S (inc (inc (sC S) 3) 9), f :: Q)
    else if m_met e ∧ f.1 = 1 then (0, uC (uT S (fu (sT S) f.2.1.toNatClampNeg (sT S f.2.1.toNatClampNeg + 1))) (inc (inc (sC S) 5) 9), Q)
    else r_fails Q (if f.1 = 0 then uD S (sD S - 1) else S) e
def okF (m : Nat) (f : Fr) : Prop := (f.1 = 0 → ∃ k, k < 6 ∧ f.2.1 = nI k ∧ ∀ x ∈ f.2.2.2.1, rN m x) ∧ (f.1 = 1 → ∃ t, t < 8 ∧ f.2.1 = nI t) ∧ (f.1 = 2 → ∃ o : Option Nat, f.2.1 = oI o ∧ ∀ k, o = some k → k < m) ∧ (f.1 = 0 ∨ f.1 = 1 ∨ f.1 = 2)
/-- how many of the pile ring -/
def nR : List Fr → Nat
  | [] => 0
  | f :: Q => if f.1 = 0 then nR Q + 1 else nR Q
theorem nI_le0 {n : Nat} (h : n + 1 < 2 ^ 31) : ¬ nI (n + 1) ≤ 0 := fun z => by
  have := (nI_leI (a := n + 1) (b := 0) (by omega) (by omega)).mp z
  omega
theorem e_fail {e : Int32} (he : e = 1 ∨ e = 2 ∨ e = 3 ∨ e = 4 ∨ e = 5 ∨ e = 6) : (m_met e ↔ ¬ (e = 5 ∨ e = 6)) ∧ ¬ e = 0 := by
  rcases he with rfl | rfl | rfl | rfl | rfl | rfl <;> decide
theorem x_fails {F : Nat} {E : Int32} {u : Int64} {h0 h : mm_H} {S : St} {P : List Fr} (hR : RM S P (0, 0, -1, u) h) (hf : fr AM h0 h) : mW none F mX4_fails 23 [(1, .int E), (0, .ref 32)] [] h (fun r h' => r = none ∧ RM S P (0, 0, -1, u) h' ∧ fr AM h0 h') := by
  have hR0 := hR
  obtain ⟨w, hm, r1, r2, r3, r4⟩ := hR
  refine w_aload_n (q := 24) aX4_fails_23 rfl rfl ?_
  refine w_get (q := 27) aX4_fails_24 f_4_120 (hm 32 (by decide) (by decide)) rfl rfl ?_
  refine w_if_le (t := 192) (q := 30) aX4_fails_27 (by decide) rfl (fun c27 => ?_) (fun c27 => ?_)
  · refine w_vret aX4_fails_192 rfl ?_
    exact ⟨rfl, hR0, hf⟩
  · refine w_aload_n (q := 31) aX4_fails_30 rfl rfl ?_
    refine w_get (q := 34) aX4_fails_31 f_4_126 (hm 32 (by decide) (by decide)) rfl rfl ?_
    refine w_if_eq (t := 192) (q := 37) aX4_fails_34 (by decide) rfl (fun c34 => ?_) (fun c34 => ?_)
    · refine w_vret aX4_fails_192 rfl ?_
      exact ⟨rfl, hR0, hf⟩
    · exact absurd rfl c34
set_option maxHeartbeats 1000000 in
theorem m_fails {F : Nat} {e : Int32} {u : Int64} {h0 : mm_H} {m : Nat} (he : e = 1 ∨ e = 2 ∨ e = 3 ∨ e = 4 ∨ e = 5 ∨ e = 6) : ∀ (Q : List Fr) (S : St) (h : mm_H), Q.length ≤ 600 → (∀ f ∈ Q, okF m f) → nR Q ≤ sD S → RM S Q.reverse (e, 0, -1, u) h → fr AM h0 h → mW none F mX4_fails 23 [(1, .int (bz (e = 5 ∨ e = 6))), (0, .ref 32)] [] h (fun r h' => r = none ∧ RM (r_fails Q S e).2.1 (r_fails Q S e).2.2.reverse ((r_fails Q S e).1, 0, -1, u) h' ∧ fr AM h0 h') := by
  obtain ⟨hmet, he0⟩ := e_fail he
  intro Q
  induction Q with
  | nil =>
    intro S h _ _ _ hR hf
    have hR0 := hR
    obtain ⟨w, hm, r1, r2, r3, r4⟩ := hR
    refine w_aload_n (q := 24) aX4_fails_23 rfl rfl ?_
    refine w_get (q := 27) aX4_fails_24 f_4_120 (hm 32 (by decide) (by decide)) rfl rfl ?_
    refine w_if_le (t := 192) (q := 30) aX4_fails_27 (by decide) rfl (fun c27 => ?_) (fun c27 => ?_)
    · refine w_vret aX4_fails_192 rfl ?_
      exact ⟨rfl, hR0, hf⟩
    · exact absurd (by decide) c27
  | cons f Q ih =>
    intro S h hlen hok hnr hR hf
    have hPl : Q.reverse.length = Q.length := List.length_reverse
    rw [List.reverse_cons] at hR
    generalize hP : Q.reverse = P at hR hPl
    have hlen2 : P.length < 600 := by have : (f :: Q).length = Q.length + 1 := rfl; omega
    have hR0 := hR
    obtain ⟨w, hm0, r1, r2, r3, r4⟩ := hR
    have hm : hM S (P.length + 1) (e, 0, -1, u) w h := by rw [List.length_append] at hm0; exact hm0
    obtain ⟨p1, p2, p3, p4⟩ := r4.top
    have r5 := r4.pop
    obtain ⟨k1, k2, k3, k4⟩ := hok f List.mem_cons_self
    unfold r_fails
    have t134 : ¬ (m_met e ∧ f.1 = 0 ∧ sW S f.2.1.toNatClampNeg = 1) → ∀ S2 h2, S2 = (if f.1 = 0 then uD S (sD S - 1) else S) → hM S2 P.length (e, 0, -1, u) w h2 → fr AM h0 h2 → mW none F mX4_fails 134 [(2, .int (nI P.length)), (1, .int (bz (e = 5 ∨ e = 6))), (0, .ref 32)] [] h2 (fun r h' => r = none ∧ RM (if m_met e ∧ f.1 = 0 ∧ sW S f.2.1.toNatClampNeg = 1 then (0, uC S (inc (inc (sC S) 3) 9), f :: Q) else if m_met e ∧ f.1 = 1 then (0, uC (uT S (fu (sT S) f.2.1.toNatClampNeg (sT S f.2.1.toNatClampNeg + 1))) (inc (inc (sC S) 5) 9), Q) else r_fails Q (if f.1 = 0 then uD S (sD S - 1) else S) e).2.1 (if m_met e ∧ f.1 = 0 ∧ sW S f.2.1.toNatClampNeg = 1 then (0, uC S (inc (inc (sC S) 3) 9), f :: Q) else if m_met e ∧ f.1 = 1 then (0, uC (uT S (fu (sT S) f.2.1.toNatClampNeg (sT S f.2.1.toNatClampNeg + 1))) (inc (inc (sC S) 5) 9), Q) else r_fails Q (if f.1 = 0 then uD S (sD S - 1) else S) e).2.2.reverse ((if m_met e ∧ f.1 = 0 ∧ sW S f.2.1.toNatClampNeg = 1 then (0, uC S (inc (inc (sC S) 3) 9), f :: Q) else if m_met e ∧ f.1 = 1 then (0, uC (uT S (fu (sT S) f.2.1.toNatClampNeg (sT S f.2.1.toNatClampNeg + 1))) (inc (inc (sC S) 5) 9), Q) else r_fails Q (if f.1 = 0 then uD S (sD S - 1) else S) e).1, 0, -1, u) h' ∧ fr AM h0 h') := fun hn S2 h2 hS2 hm hf => by
      rw [if_neg hn]
      have go : ¬ (m_met e ∧ f.1 = 1) → mW none F mX4_fails 189 [(2, .int (nI P.length)), (1, .int (bz (e = 5 ∨ e = 6))), (0, .ref 32)] [] h2 (fun r h' => r = none ∧ RM (if m_met e ∧ f.1 = 1 then (0, uC (uT S (fu (sT S) f.2.1.toNatClampNeg (sT S f.2.1.toNatClampNeg + 1))) (inc (inc (sC S) 5) 9), Q) else r_fails Q (if f.1 = 0 then uD S (sD S - 1) else S) e).2.1 (if m_met e ∧ f.1 = 1 then (0, uC (uT S (fu (sT S) f.2.1.toNatClampNeg (sT S f.2.1.toNatClampNeg + 1))) (inc (inc (sC S) 5) 9), Q) else r_fails Q (if f.1 = 0 then uD S (sD S - 1) else S) e).2.2.reverse ((if m_met e ∧ f.1 = 1 then (0, uC (uT S (fu (sT S) f.2.1.toNatClampNeg (sT S f.2.1.toNatClampNeg + 1))) (inc (inc (sC S) 5) 9), Q) else r_fails Q (if f.1 = 0 then uD S (sD S - 1) else S) e).1, 0, -1, u) h' ∧ fr AM h0 h') := fun hn2 => by
        rw [if_neg hn2, ← hS2]
        refine w_goto (t := 23) aX4_fails_189 (by decide) ?_
        refine (ih S2 h2 (by have : (f :: Q).length = Q.length + 1 := rfl; omega) (fun g hg => hok g (List.mem_cons_of_mem _ hg)) ?_ ?_ hf).ls (Rl.cons (Rl.cons Rl.nil rfl) rfl)
        · unfold nR at hnr
          by_cases e0 : f.1 = 0
          · rw [if_pos e0] at hS2 hnr
            subst hS2
            show nR Q ≤ sD S - 1
            omega
          · rw [if_neg e0] at hS2 hnr
            subst hS2
            exact hnr
        · rw [hP]
          refine ⟨w, hm, ?_, ?_, ?_, r5⟩
          · by_cases e0 : f.1 = 0
            · rw [if_pos e0] at hS2; subst hS2; exact r1
            · rw [if_neg e0] at hS2; subst hS2; exact r1
          · by_cases e0 : f.1 = 0
            · rw [if_pos e0] at hS2; subst hS2; exact r2
            · rw [if_neg e0] at hS2; subst hS2; exact r2
          · by_cases e0 : f.1 = 0
            · rw [if_pos e0] at hS2; subst hS2; exact r3
            · rw [if_neg e0] at hS2; subst hS2; exact r3
      refine w_iload_n (q := 135) aX4_fails_134 rfl rfl ?_
      refine w_if_ne (t := 189) (q := 138) aX4_fails_135 (by decide) rfl (fun c135 => ?_) (fun c135 => ?_)
      · exact go (fun z => hmet.mp z.1 (bz_ne0 c135))
      · refine w_aload_n (q := 139) aX4_fails_138 rfl rfl ?_
        refine w_get (q := 142) aX4_fails_139 f_4_56 (hm 32 (by decide) (by decide)) rfl rfl ?_
        refine w_iload_n (q := 143) aX4_fails_142 rfl rfl ?_
        refine w_iald (q := 144) aX4_fails_143 (by decide) (hm 48 (by decide) (by decide)) (mm_ix_at (n := P.length) rfl (by omega) (rg_at (by omega))) rfl ?_
        rw [p1]
        refine w_iconst (v := 1) (q := 145) aX4_fails_144 rfl rfl ?_
        refine w_ic_ne (t := 189) (q := 148) aX4_fails_145 (by decide) rfl (fun c145 => ?_) (fun c145 => ?_)
        · exact go (fun z => c145 z.2)
        · have hme := hmet.mpr (bz_eq0 c135)
          have f1 : f.1 = 1 := c145
          rw [if_pos ⟨hme, f1⟩]
          have hS3 : S2 = S := by rw [hS2, if_neg (by rw [f1]; decide)]
          rw [hS3] at hm
          obtain ⟨t, ht, et⟩ := k2 f1
          rw [et, nI_clamp (by omega)]
          rw [et] at p2
          refine w_aload_n (q := 149) aX4_fails_148 rfl rfl ?_
          refine w_get (q := 152) aX4_fails_149 f_4_7 (hm 32 (by decide) (by decide)) rfl rfl ?_
          refine w_aload_n (q := 153) aX4_fails_152 rfl rfl ?_
          refine w_get (q := 156) aX4_fails_153 f_4_59 (hm 32 (by decide) (by decide)) rfl rfl ?_
          refine w_iload_n (q := 157) aX4_fails_156 rfl rfl ?_
          refine w_iald (q := 158) aX4_fails_157 (by decide) (hm 49 (by decide) (by decide)) (mm_ix_at (n := P.length) rfl (by omega) (rg_at (by omega))) rfl ?_
          rw [p2]
          refine w_dup2 (q := 159) aX4_fails_158 ⟨rfl, rfl⟩ rfl ?_
          refine w_lald (q := 160) aX4_fails_159 (hm 33 (by decide) (by decide)) (mm_ix_at (n := t) rfl (by omega) (rg_at (by omega))) rfl ?_
          refine w_lconst (v := 1) (q := 161) aX4_fails_160 rfl rfl ?_
          refine w_ladd (q := 162) aX4_fails_161 rfl ?_
          refine w_last (q := 163) (n := t) (vs' := _) aX4_fails_162 (hm 33 (by decide) (by decide)) (rfl) (by rw [rg_len]; omega) (by rw [rg_len]; omega) (rg_set _ _ _ _) rfl ?_
          refine w_aload_n (q := 164) aX4_fails_163 rfl rfl ?_
          refine w_get (q := 167) aX4_fails_164 f_4_74 ((up_n (by decide)).trans (hm 32 (by decide) (by decide))) rfl rfl ?_
          refine w_iconst (v := 5) (q := 168) aX4_fails_167 rfl rfl ?_
          refine w_dup2 (q := 169) aX4_fails_168 ⟨rfl, rfl⟩ rfl ?_
          refine w_iald (q := 170) aX4_fails_169 (by decide) ((up_n (by decide)).trans (hm 54 (by decide) (by decide))) (mm_ix_at (n := 5) rfl (by omega) (rg_at (by omega))) rfl ?_
          refine w_iconst (v := 1) (q := 171) aX4_fails_170 rfl rfl ?_
          refine w_iadd (q := 172) aX4_fails_171 rfl ?_
          refine w_iast (q := 173) (n := 5) (vs' := _) aX4_fails_172 ((up_n (by decide)).trans (hm 54 (by decide) (by decide))) (rfl) (by rw [rg_len]; omega) (by rw [rg_len]; omega) (rg_set _ _ _ _) rfl ?_
          refine w_aload_n (q := 174) aX4_fails_173 rfl rfl ?_
          refine w_get (q := 177) aX4_fails_174 f_4_74 ((up_n (by decide)).trans ((up_n (by decide)).trans (hm 32 (by decide) (by decide)))) rfl rfl ?_
          refine w_bipush (v := 9) (q := 179) aX4_fails_177 rfl rfl ?_
          refine w_dup2 (q := 180) aX4_fails_179 ⟨rfl, rfl⟩ rfl ?_
          refine w_iald (q := 181) aX4_fails_180 (by decide) (up_s _ _ _) (mm_ix_at (n := 9) rfl (by omega) (rg_at (by omega))) rfl ?_
          refine w_iconst (v := 1) (q := 182) aX4_fails_181 rfl rfl ?_
          refine w_iadd (q := 183) aX4_fails_182 rfl ?_
          refine w_iast (q := 184) (n := 9) (vs' := _) aX4_fails_183 (up_s _ _ _) (rfl) (by rw [rg_len]; omega) (by rw [rg_len]; omega) (rg_set _ _ _ _) rfl ?_
          refine w_aload_n (q := 185) aX4_fails_184 rfl rfl ?_
          refine w_iconst (v := 0) (q := 186) aX4_fails_185 rfl rfl ?_
          refine w_put (q := 189) (fs' := [_, _, _, _, _, _, _, _, _, _, _, _, _, _, _, _, _, _, _, _, _, _, _, _, _, _, _, _, _, _, _]) aX4_fails_186 f_4_126 ((up_n (by decide)).trans ((up_n (by decide)).trans ((up_n (by decide)).trans (hm 32 (by decide) (by decide))))) (Nat.le_of_ble_eq_true rfl) rfl rfl (Or.inl rfl) rfl rfl ?_
          refine w_goto (t := 23) aX4_fails_189 (by decide) ?_
          refine (x_fails (S := uC (uT S (fu (sT S) t (sT S t + 1))) (inc (inc (sC S) 5) 9)) (P := Q.reverse) (u := u) ⟨w, ?_, r1, r2, r3, by rw [hP]; exact r5⟩ ((((hf.up (AM_l (by omega))).up (AM_l (by omega))).up (AM_l (by omega))).up (AM_l (by omega)))).ls (Rl.cons (Rl.cons Rl.nil rfl) rfl)
          rw [hP]
          have a1 : fu (fun j => Value.long (sT S j)) t (.long (sT S t + 1)) = fun j => Value.long (fu (sT S) t (sT S t + 1) j) := fu_map Value.long _ _ _
          have a2 : fu (fu (fun j => Value.int (if j = 0 then nI (sM S) else sC S j)) 5 (.int (sC S 5 + 1))) 9 (.int (sC S 9 + 1)) = fun j => Value.int (if j = 0 then nI (sM S) else inc (inc (sC S) 5) 9 j) := by
            rw [f54 (by decide)]
            exact f54 (S := uC S (inc (sC S) 5)) (by decide)
          intro q h1 h2
          rcases q23 q h1 h2 with rfl | rfl | rfl | rfl | rfl | rfl | rfl | rfl | rfl | rfl | rfl | rfl | rfl | rfl | rfl | rfl | rfl | rfl | rfl | rfl | rfl | rfl | rfl <;> first | exact hm _ h1 h2 | exact congrArg (fun z => some ((6 : Nat), rg 8 z)) a1 | exact congrArg (fun z => some ((5 : Nat), rg 10 z)) a2 |  rfl
    have t101 : ¬ (m_met e ∧ f.1 = 0 ∧ sW S f.2.1.toNatClampNeg = 1) → mW none F mX4_fails 101 [(2, .int (nI P.length)), (1, .int (bz (e = 5 ∨ e = 6))), (0, .ref 32)] [] h (fun r h' => r = none ∧ RM (if m_met e ∧ f.1 = 0 ∧ sW S f.2.1.toNatClampNeg = 1 then (0, uC S (inc (inc (sC S) 3) 9), f :: Q) else if m_met e ∧ f.1 = 1 then (0, uC (uT S (fu (sT S) f.2.1.toNatClampNeg (sT S f.2.1.toNatClampNeg + 1))) (inc (inc (sC S) 5) 9), Q) else r_fails Q (if f.1 = 0 then uD S (sD S - 1) else S) e).2.1 (if m_met e ∧ f.1 = 0 ∧ sW S f.2.1.toNatClampNeg = 1 then (0, uC S (inc (inc (sC S) 3) 9), f :: Q) else if m_met e ∧ f.1 = 1 then (0, uC (uT S (fu (sT S) f.2.1.toNatClampNeg (sT S f.2.1.toNatClampNeg + 1))) (inc (inc (sC S) 5) 9), Q) else r_fails Q (if f.1 = 0 then uD S (sD S - 1) else S) e).2.2.reverse ((if m_met e ∧ f.1 = 0 ∧ sW S f.2.1.toNatClampNeg = 1 then (0, uC S (inc (inc (sC S) 3) 9), f :: Q) else if m_met e ∧ f.1 = 1 then (0, uC (uT S (fu (sT S) f.2.1.toNatClampNeg (sT S f.2.1.toNatClampNeg + 1))) (inc (inc (sC S) 5) 9), Q) else r_fails Q (if f.1 = 0 then uD S (sD S - 1) else S) e).1, 0, -1, u) h' ∧ fr AM h0 h') := fun hn => by
      refine w_aload_n (q := 102) aX4_fails_101 rfl rfl ?_
      refine w_dup (q := 103) aX4_fails_102 rfl rfl ?_
      refine w_get (q := 106) aX4_fails_103 f_4_120 (hm 32 (by decide) (by decide)) rfl rfl ?_
      refine w_iconst (v := 1) (q := 107) aX4_fails_106 rfl rfl ?_
      refine w_isub (q := 108) aX4_fails_107 rfl ?_
      rw [nI_pred]
      refine w_put (q := 111) (fs' := [_, _, _, _, _, _, _, _, _, _, _, _, _, _, _, _, _, _, _, _, _, _, _, _, _, _, _, _, _, _, _]) aX4_fails_108 f_4_120 (hm 32 (by decide) (by decide)) (Nat.le_of_ble_eq_true rfl) rfl rfl (Or.inl rfl) rfl rfl ?_
      refine w_aload_n (q := 112) aX4_fails_111 rfl rfl ?_
      refine w_dup (q := 113) aX4_fails_112 rfl rfl ?_
      refine w_get (q := 116) aX4_fails_113 f_4_123 (up_s _ _ _) rfl rfl ?_
      refine w_aload_n (q := 117) aX4_fails_116 rfl rfl ?_
      refine w_get (q := 120) aX4_fails_117 f_4_56 (up_s _ _ _) rfl rfl ?_
      refine w_iload_n (q := 121) aX4_fails_120 rfl rfl ?_
      refine w_iald (q := 122) aX4_fails_121 (by decide) ((up_n (by decide)).trans (hm 48 (by decide) (by decide))) (mm_ix_at (n := P.length) rfl (by omega) (rg_at (by omega))) rfl ?_
      rw [p1]
      refine w_if_ne (t := 129) (q := 125) aX4_fails_122 (by decide) rfl (fun c122 => ?_) (fun c122 => ?_)
      · refine w_iconst (v := 0) (q := 130) aX4_fails_129 rfl rfl ?_
        refine w_isub (q := 131) aX4_fails_130 rfl ?_
        rw [show nI (sD S) - 0 = nI (sD S) from by simp]
        refine w_put (q := 134) (fs' := [_, _, _, _, _, _, _, _, _, _, _, _, _, _, _, _, _, _, _, _, _, _, _, _, _, _, _, _, _, _, _]) aX4_fails_131 f_4_123 (up_s _ _ _) (Nat.le_of_ble_eq_true rfl) rfl rfl (Or.inl rfl) rfl rfl ?_
        refine t134 hn S _ (by rw [if_neg c122]) ?_ ((hf.up (AM_l (by omega))).up (AM_l (by omega)))
        intro q h1 h2
        rcases q23 q h1 h2 with rfl | rfl | rfl | rfl | rfl | rfl | rfl | rfl | rfl | rfl | rfl | rfl | rfl | rfl | rfl | rfl | rfl | rfl | rfl | rfl | rfl | rfl | rfl <;> first | exact hm _ h1 h2 |  rfl
      · refine w_iconst (v := 1) (q := 126) aX4_fails_125 rfl rfl ?_
        refine w_goto (t := 130) aX4_fails_126 (by decide) ?_
        refine w_isub (q := 131) aX4_fails_130 rfl ?_
        unfold nR at hnr
        rw [if_pos c122] at hnr
        obtain ⟨d, hd⟩ : ∃ d, sD S = d + 1 := ⟨sD S - 1, by omega⟩
        rw [show nI (sD S) - 1 = nI (sD S - 1) by rw [hd, nI_pred]; rfl]
        refine w_put (q := 134) (fs' := [_, _, _, _, _, _, _, _, _, _, _, _, _, _, _, _, _, _, _, _, _, _, _, _, _, _, _, _, _, _, _]) aX4_fails_131 f_4_123 (up_s _ _ _) (Nat.le_of_ble_eq_true rfl) rfl rfl (Or.inl rfl) rfl rfl ?_
        refine t134 hn (uD S (sD S - 1)) _ (by rw [if_pos c122]) ?_ ((hf.up (AM_l (by omega))).up (AM_l (by omega)))
        intro q h1 h2
        rcases q23 q h1 h2 with rfl | rfl | rfl | rfl | rfl | rfl | rfl | rfl | rfl | rfl | rfl | rfl | rfl | rfl | rfl | rfl | rfl | rfl | rfl | rfl | rfl | rfl | rfl <;> first | exact hm _ h1 h2 |  rfl
    refine w_aload_n (q := 24) aX4_fails_23 rfl rfl ?_
    refine w_get (q := 27) aX4_fails_24 f_4_120 (hm 32 (by decide) (by decide)) rfl rfl ?_
    refine w_if_le (t := 192) (q := 30) aX4_fails_27 (by decide) rfl (fun c27 => ?_) (fun c27 => ?_)
    · exact absurd c27 (nI_le0 (by omega))
    · refine w_aload_n (q := 31) aX4_fails_30 rfl rfl ?_
      refine w_get (q := 34) aX4_fails_31 f_4_126 (hm 32 (by decide) (by decide)) rfl rfl ?_
      refine w_if_eq (t := 192) (q := 37) aX4_fails_34 (by decide) rfl (fun c34 => ?_) (fun c34 => ?_)
      · exact absurd c34 he0
      · refine w_aload_n (q := 38) aX4_fails_37 rfl rfl ?_
        refine w_get (q := 41) aX4_fails_38 f_4_120 (hm 32 (by decide) (by decide)) rfl rfl ?_
        refine w_iconst (v := 1) (q := 42) aX4_fails_41 rfl rfl ?_
        refine w_isub (q := 43) aX4_fails_42 rfl ?_
        rw [nI_pred]
        refine w_istore_n (q := 44) (ls' := [(2, _), (1, _), (0, _)]) aX4_fails_43 (by decide) rfl rfl ?_
        refine w_iload_n (q := 45) aX4_fails_44 rfl rfl ?_
        refine w_if_ne (t := 101) (q := 48) aX4_fails_45 (by decide) rfl (fun c45 => ?_) (fun c45 => ?_)
        · exact t101 (fun z => hmet.mp z.1 (bz_ne0 c45))
        · have hme := hmet.mpr (bz_eq0 c45)
          refine w_aload_n (q := 49) aX4_fails_48 rfl rfl ?_
          refine w_get (q := 52) aX4_fails_49 f_4_56 (hm 32 (by decide) (by decide)) rfl rfl ?_
          refine w_iload_n (q := 53) aX4_fails_52 rfl rfl ?_
          refine w_iald (q := 54) aX4_fails_53 (by decide) (hm 48 (by decide) (by decide)) (mm_ix_at (n := P.length) rfl (by omega) (rg_at (by omega))) rfl ?_
          rw [p1]
          refine w_if_ne (t := 101) (q := 57) aX4_fails_54 (by decide) rfl (fun c54 => ?_) (fun c54 => ?_)
          · exact t101 (fun z => c54 z.2.1)
          · obtain ⟨k, hk, ek, -⟩ := k1 c54
            rw [ek] at p2
            refine w_aload_n (q := 58) aX4_fails_57 rfl rfl ?_
            refine w_get (q := 61) aX4_fails_58 f_4_13 (hm 32 (by decide) (by decide)) rfl rfl ?_
            refine w_aload_n (q := 62) aX4_fails_61 rfl rfl ?_
            refine w_get (q := 65) aX4_fails_62 f_4_59 (hm 32 (by decide) (by decide)) rfl rfl ?_
            refine w_iload_n (q := 66) aX4_fails_65 rfl rfl ?_
            refine w_iald (q := 67) aX4_fails_66 (by decide) (hm 49 (by decide) (by decide)) (mm_ix_at (n := P.length) rfl (by omega) (rg_at (by omega))) rfl ?_
            rw [p2]
            refine w_iald (q := 68) aX4_fails_67 (by decide) (hm 34 (by decide) (by decide)) (mm_ix_at (n := k) rfl (by omega) (rg_at (by omega))) rfl ?_
            refine w_iconst (v := 1) (q := 69) aX4_fails_68 rfl rfl ?_
            refine w_ic_ne (t := 101) (q := 72) aX4_fails_69 (by decide) rfl (fun c69 => ?_) (fun c69 => ?_)
            · exact t101 (fun z => c69 (by have := z.2.2; rw [ek, nI_clamp (by omega)] at this; exact this))
            · rw [if_pos ⟨hme, c54, by rw [ek, nI_clamp (by omega)]; exact c69⟩]
              refine w_aload_n (q := 73) aX4_fails_72 rfl rfl ?_
              refine w_get (q := 76) aX4_fails_73 f_4_74 (hm 32 (by decide) (by decide)) rfl rfl ?_
              refine w_iconst (v := 3) (q := 77) aX4_fails_76 rfl rfl ?_
              refine w_dup2 (q := 78) aX4_fails_77 ⟨rfl, rfl⟩ rfl ?_
              refine w_iald (q := 79) aX4_fails_78 (by decide) (hm 54 (by decide) (by decide)) (mm_ix_at (n := 3) rfl (by omega) (rg_at (by omega))) rfl ?_
              refine w_iconst (v := 1) (q := 80) aX4_fails_79 rfl rfl ?_
              refine w_iadd (q := 81) aX4_fails_80 rfl ?_
              refine w_iast (q := 82) (n := 3) (vs' := _) aX4_fails_81 (hm 54 (by decide) (by decide)) (rfl) (by rw [rg_len]; omega) (by rw [rg_len]; omega) (rg_set _ _ _ _) rfl ?_
              refine w_aload_n (q := 83) aX4_fails_82 rfl rfl ?_
              refine w_get (q := 86) aX4_fails_83 f_4_74 ((up_n (by decide)).trans (hm 32 (by decide) (by decide))) rfl rfl ?_
              refine w_bipush (v := 9) (q := 88) aX4_fails_86 rfl rfl ?_
              refine w_dup2 (q := 89) aX4_fails_88 ⟨rfl, rfl⟩ rfl ?_
              refine w_iald (q := 90) aX4_fails_89 (by decide) (up_s _ _ _) (mm_ix_at (n := 9) rfl (by omega) (rg_at (by omega))) rfl ?_
              refine w_iconst (v := 1) (q := 91) aX4_fails_90 rfl rfl ?_
              refine w_iadd (q := 92) aX4_fails_91 rfl ?_
              refine w_iast (q := 93) (n := 9) (vs' := _) aX4_fails_92 (up_s _ _ _) (rfl) (by rw [rg_len]; omega) (by rw [rg_len]; omega) (rg_set _ _ _ _) rfl ?_
              refine w_aload_n (q := 94) aX4_fails_93 rfl rfl ?_
              refine w_iconst (v := 0) (q := 95) aX4_fails_94 rfl rfl ?_
              refine w_put (q := 98) (fs' := [_, _, _, _, _, _, _, _, _, _, _, _, _, _, _, _, _, _, _, _, _, _, _, _, _, _, _, _, _, _, _]) aX4_fails_95 f_4_126 ((up_n (by decide)).trans ((up_n (by decide)).trans (hm 32 (by decide) (by decide)))) (Nat.le_of_ble_eq_true rfl) rfl rfl (Or.inl rfl) rfl rfl ?_
              refine w_goto (t := 189) aX4_fails_98 (by decide) ?_
              refine w_goto (t := 23) aX4_fails_189 (by decide) ?_
              refine (x_fails (S := uC S (inc (inc (sC S) 3) 9)) (P := (f :: Q).reverse) (u := u) ⟨w, ?_, r1, r2, r3, by rw [List.reverse_cons, hP]; exact r4⟩ (((hf.up (AM_l (by omega))).up (AM_l (by omega))).up (AM_l (by omega)))).ls (Rl.cons (Rl.cons Rl.nil rfl) rfl)
              rw [List.reverse_cons, hP, List.length_append]
              have a2 : fu (fu (fun j => Value.int (if j = 0 then nI (sM S) else sC S j)) 3 (.int (sC S 3 + 1))) 9 (.int (sC S 9 + 1)) = fun j => Value.int (if j = 0 then nI (sM S) else inc (inc (sC S) 3) 9 j) := by
                rw [f54 (by decide)]
                exact f54 (S := uC S (inc (sC S) 3)) (by decide)
              intro q h1 h2
              rcases q23 q h1 h2 with rfl | rfl | rfl | rfl | rfl | rfl | rfl | rfl | rfl | rfl | rfl | rfl | rfl | rfl | rfl | rfl | rfl | rfl | rfl | rfl | rfl | rfl | rfl <;> first | exact hm _ h1 h2 | exact congrArg (fun z => some ((5 : Nat), rg 10 z)) a2 |  rfl
theorem d_fails {F : Nat} {e : Int32} {u : Int64} {m : Nat} (he : e = 1 ∨ e = 2 ∨ e = 3 ∨ e = 4 ∨ e = 5 ∨ e = 6) {Q : List Fr} {S : St} {h : mm_H} (hl : Q.length ≤ 600) (hok : ∀ f ∈ Q, okF m f) (hn : nR Q ≤ sD S) (hR : RM S Q.reverse (e, 0, -1, u) h) : mW none F mX4_fails 0 [(0, .ref 32)] [] h (fun r h' => r = none ∧ RM (r_fails Q S e).2.1 (r_fails Q S e).2.2.reverse ((r_fails Q S e).1, 0, -1, u) h' ∧ fr AM h h') := by
  have k := m_fails (F := F) (u := u) (h0 := h) he Q S h hl hok hn hR fr.rf
  obtain ⟨w, hm, r1, r2, r3, r4⟩ := hR
  refine w_aload_n (q := 1) aX4_fails_0 rfl rfl ?_
  refine w_get (q := 4) aX4_fails_1 f_4_126 (hm 32 (by decide) (by decide)) rfl rfl ?_
  refine w_iconst (v := 5) (q := 5) aX4_fails_4 rfl rfl ?_
  refine w_ic_eq (t := 17) (q := 8) aX4_fails_5 (by decide) rfl (fun c5 => ?_) (fun c5 => ?_)
  · rw [bz_1 (Or.inl c5)] at k
    refine w_iconst (v := 1) (q := 18) aX4_fails_17 rfl rfl ?_
    refine w_goto (t := 22) aX4_fails_18 (by decide) ?_
    refine w_istore_n (q := 23) (ls' := [(1, _), (0, _)]) aX4_fails_22 (by decide) rfl rfl ?_
    exact k
  · refine w_aload_n (q := 9) aX4_fails_8 rfl rfl ?_
    refine w_get (q := 12) aX4_fails_9 f_4_126 (hm 32 (by decide) (by decide)) rfl rfl ?_
    refine w_bipush (v := 6) (q := 14) aX4_fails_12 rfl rfl ?_
    refine w_ic_ne (t := 21) (q := 17) aX4_fails_14 (by decide) rfl (fun c14 => ?_) (fun c14 => ?_)
    · rw [bz_0 (fun z => z.elim c5 c14)] at k
      refine w_iconst (v := 0) (q := 22) aX4_fails_21 rfl rfl ?_
      refine w_istore_n (q := 23) (ls' := [(1, _), (0, _)]) aX4_fails_22 (by decide) rfl rfl ?_
      exact k
    · rw [bz_1 (Or.inr c14)] at k
      refine w_iconst (v := 1) (q := 18) aX4_fails_17 rfl rfl ?_
      refine w_goto (t := 22) aX4_fails_18 (by decide) ?_
      refine w_istore_n (q := 23) (ls' := [(1, _), (0, _)]) aX4_fails_22 (by decide) rfl rfl ?_
      exact k
end
section
/-- a stop takes the pile off, its top first, to the ringing that it ends -/
def r_stop : List Fr → St → St × List Fr
  | [], S => (S, [])
  | f :: Q, S => if f.1 = 0 then (uD S (sD S - 1), Q) else r_stop Q S
theorem x_stop {F : Nat} {u : Int64} {h0 h : mm_H} {S : St} {P : List Fr} (hR : RM S P (0, 0, -1, u) h) (hf : fr AM h0 h) : mW none F mX4_stop 18 [(1, .int 0), (0, .ref 32)] [] h (fun r h' => r = none ∧ RM S P (0, 0, -1, u) h' ∧ fr AM h0 h') := by
  refine w_iload_n (q := 19) aX4_stop_18 rfl rfl ?_
  refine w_if_eq (t := 86) (q := 22) aX4_stop_19 (by decide) rfl (fun c19 => ?_) (fun c19 => ?_)
  · refine w_vret aX4_stop_86 rfl ?_
    exact ⟨rfl, hR, hf⟩
  · exact absurd rfl c19
theorem m_stop {F : Nat} {u : Int64} {h0 : mm_H} : ∀ (Q : List Fr) (S : St) (h : mm_H), Q.length ≤ 600 → nR Q ≤ sD S → RM S Q.reverse (0, 0, -1, u) h → fr AM h0 h → mW none F mX4_stop 18 [(1, .int (if Q = [] then 0 else 1)), (0, .ref 32)] [] h (fun r h' => r = none ∧ RM (r_stop Q S).1 (r_stop Q S).2.reverse (0, 0, -1, u) h' ∧ fr AM h0 h') := by
  intro Q
  induction Q with
  | nil =>
    intro S h _ _ hR hf
    rw [if_pos rfl]
    exact x_stop hR hf
  | cons f Q ih =>
    intro S h hlen hnr hR hf
    have hPl : Q.reverse.length = Q.length := List.length_reverse
    rw [if_neg (List.cons_ne_nil _ _)]
    rw [List.reverse_cons] at hR
    generalize hP : Q.reverse = P at hR hPl
    have hlen2 : P.length < 600 := by have : (f :: Q).length = Q.length + 1 := rfl; omega
    obtain ⟨w, hm0, r1, r2, r3, r4⟩ := hR
    have hm : hM S (P.length + 1) (0, 0, -1, u) w h := by rw [List.length_append] at hm0; exact hm0
    obtain ⟨p1, -⟩ := r4.top
    have r5 := r4.pop
    unfold r_stop
    have t57 : ∀ (y : Int32) (h1 : mm_H), y = (if f.1 = 0 then 0 else if Q = [] then 0 else 1) → hM S P.length (0, 0, -1, u) w h1 → fr AM h0 h1 → mW none F mX4_stop 57 [(1, .int y), (0, .ref 32)] [] h1 (fun r h' => r = none ∧ RM (if f.1 = 0 then (uD S (sD S - 1), Q) else r_stop Q S).1 (if f.1 = 0 then (uD S (sD S - 1), Q) else r_stop Q S).2.reverse (0, 0, -1, u) h' ∧ fr AM h0 h') := fun y h1 hy hm hf => by
      refine w_aload_n (q := 58) aX4_stop_57 rfl rfl ?_
      refine w_dup (q := 59) aX4_stop_58 rfl rfl ?_
      refine w_get (q := 62) aX4_stop_59 f_4_123 (hm 32 (by decide) (by decide)) rfl rfl ?_
      refine w_aload_n (q := 63) aX4_stop_62 rfl rfl ?_
      refine w_get (q := 66) aX4_stop_63 f_4_56 (hm 32 (by decide) (by decide)) rfl rfl ?_
      refine w_aload_n (q := 67) aX4_stop_66 rfl rfl ?_
      refine w_get (q := 70) aX4_stop_67 f_4_120 (hm 32 (by decide) (by decide)) rfl rfl ?_
      refine w_iald (q := 71) aX4_stop_70 (by decide) (hm 48 (by decide) (by decide)) (mm_ix_at (n := P.length) rfl (by omega) (rg_at (by omega))) rfl ?_
      rw [p1]
      refine w_if_ne (t := 78) (q := 74) aX4_stop_71 (by decide) rfl (fun c71 => ?_) (fun c71 => ?_)
      · rw [if_neg c71] at hy
        rw [if_neg c71]
        refine w_iconst (v := 0) (q := 79) aX4_stop_78 rfl rfl ?_
        refine w_isub (q := 80) aX4_stop_79 rfl ?_
        rw [show nI (sD S) - 0 = nI (sD S) from by simp]
        refine w_put (q := 83) (fs' := [_, _, _, _, _, _, _, _, _, _, _, _, _, _, _, _, _, _, _, _, _, _, _, _, _, _, _, _, _, _, _]) aX4_stop_80 f_4_123 (hm 32 (by decide) (by decide)) (Nat.le_of_ble_eq_true rfl) rfl rfl (Or.inl rfl) rfl rfl ?_
        refine w_goto (t := 18) aX4_stop_83 (by decide) ?_
        rw [hy]
        unfold nR at hnr
        rw [if_neg c71] at hnr
        refine ih S _ (by have : (f :: Q).length = Q.length + 1 := rfl; omega) hnr ⟨w, ?_, r1, r2, r3, by rw [hP]; exact r5⟩ (hf.up (AM_l (by omega)))
        rw [hP]
        intro q h1 h2
        rcases q23 q h1 h2 with rfl | rfl | rfl | rfl | rfl | rfl | rfl | rfl | rfl | rfl | rfl | rfl | rfl | rfl | rfl | rfl | rfl | rfl | rfl | rfl | rfl | rfl | rfl <;> first | exact hm _ h1 h2 |  rfl
      · rw [if_pos c71] at hy
        rw [if_pos c71]
        refine w_iconst (v := 1) (q := 75) aX4_stop_74 rfl rfl ?_
        refine w_goto (t := 79) aX4_stop_75 (by decide) ?_
        refine w_isub (q := 80) aX4_stop_79 rfl ?_
        unfold nR at hnr
        rw [if_pos c71] at hnr
        obtain ⟨d, hd⟩ : ∃ d, sD S = d + 1 := ⟨sD S - 1, by omega⟩
        rw [show nI (sD S) - 1 = nI (sD S - 1) by rw [hd, nI_pred]; rfl]
        refine w_put (q := 83) (fs' := [_, _, _, _, _, _, _, _, _, _, _, _, _, _, _, _, _, _, _, _, _, _, _, _, _, _, _, _, _, _, _]) aX4_stop_80 f_4_123 (hm 32 (by decide) (by decide)) (Nat.le_of_ble_eq_true rfl) rfl rfl (Or.inl rfl) rfl rfl ?_
        refine w_goto (t := 18) aX4_stop_83 (by decide) ?_
        rw [hy]
        refine x_stop (S := uD S (sD S - 1)) (P := Q.reverse) (u := u) ⟨w, ?_, r1, r2, r3, by rw [hP]; exact r5⟩ (hf.up (AM_l (by omega)))
        rw [hP]
        intro q h1 h2
        rcases q23 q h1 h2 with rfl | rfl | rfl | rfl | rfl | rfl | rfl | rfl | rfl | rfl | rfl | rfl | rfl | rfl | rfl | rfl | rfl | rfl | rfl | rfl | rfl | rfl | rfl <;> first | exact hm _ h1 h2 |  rfl
    refine w_iload_n (q := 19) aX4_stop_18 rfl rfl ?_
    refine w_if_eq (t := 86) (q := 22) aX4_stop_19 (by decide) rfl (fun c19 => ?_) (fun c19 => ?_)
    · exact absurd c19 (by decide)
    · refine w_aload_n (q := 23) aX4_stop_22 rfl rfl ?_
      refine w_dup (q := 24) aX4_stop_23 rfl rfl ?_
      refine w_get (q := 27) aX4_stop_24 f_4_120 (hm 32 (by decide) (by decide)) rfl rfl ?_
      refine w_iconst (v := 1) (q := 28) aX4_stop_27 rfl rfl ?_
      refine w_isub (q := 29) aX4_stop_28 rfl ?_
      rw [nI_pred]
      refine w_put (q := 32) (fs' := [_, _, _, _, _, _, _, _, _, _, _, _, _, _, _, _, _, _, _, _, _, _, _, _, _, _, _, _, _, _, _]) aX4_stop_29 f_4_120 (hm 32 (by decide) (by decide)) (Nat.le_of_ble_eq_true rfl) rfl rfl (Or.inl rfl) rfl rfl ?_
      refine w_aload_n (q := 33) aX4_stop_32 rfl rfl ?_
      refine w_get (q := 36) aX4_stop_33 f_4_120 (up_s _ _ _) rfl rfl ?_
      have hm2 : hM S P.length (0, 0, -1, u) w (mm_up h 32 (4, moL S P.length (0, 0, -1, u))) := by
        intro q h1 h2
        rcases q23 q h1 h2 with rfl | rfl | rfl | rfl | rfl | rfl | rfl | rfl | rfl | rfl | rfl | rfl | rfl | rfl | rfl | rfl | rfl | rfl | rfl | rfl | rfl | rfl | rfl <;> first | exact hm _ h1 h2 |  rfl
      have hf2 : fr AM h0 (mm_up h 32 (4, moL S P.length (0, 0, -1, u))) := hf.up (AM_l (by omega))
      refine w_if_le (t := 55) (q := 39) aX4_stop_36 (by decide) rfl (fun c36 => ?_) (fun c36 => ?_)
      · have hz : Q = [] := by
          have : P.length ≤ 0 := (nI_leI (b := 0) (by omega) (by omega)).mp c36
          exact List.length_eq_zero_iff.mp (by omega)
        refine w_iconst (v := 0) (q := 56) aX4_stop_55 rfl rfl ?_
        refine w_istore_n (q := 57) (ls' := [(1, _), (0, _)]) aX4_stop_56 (by decide) rfl rfl ?_
        exact t57 0 _ (by rw [if_pos hz]; split <;> rfl) hm2 hf2
      · have hz : ¬ Q = [] := fun z => c36 (by rw [z] at hPl; rw [hPl]; decide)
        refine w_aload_n (q := 40) aX4_stop_39 rfl rfl ?_
        refine w_get (q := 43) aX4_stop_40 f_4_56 (up_s _ _ _) rfl rfl ?_
        refine w_aload_n (q := 44) aX4_stop_43 rfl rfl ?_
        refine w_get (q := 47) aX4_stop_44 f_4_120 (up_s _ _ _) rfl rfl ?_
        refine w_iald (q := 48) aX4_stop_47 (by decide) ((up_n (by decide)).trans (hm 48 (by decide) (by decide))) (mm_ix_at (n := P.length) rfl (by omega) (rg_at (by omega))) rfl ?_
        rw [p1]
        refine w_if_eq (t := 55) (q := 51) aX4_stop_48 (by decide) rfl (fun c48 => ?_) (fun c48 => ?_)
        · refine w_iconst (v := 0) (q := 56) aX4_stop_55 rfl rfl ?_
          refine w_istore_n (q := 57) (ls' := [(1, _), (0, _)]) aX4_stop_56 (by decide) rfl rfl ?_
          exact t57 0 _ (by rw [if_pos c48]) hm2 hf2
        · skip
          refine w_iconst (v := 1) (q := 52) aX4_stop_51 rfl rfl ?_
          refine w_goto (t := 56) aX4_stop_52 (by decide) ?_
          refine w_istore_n (q := 57) (ls' := [(1, _), (0, _)]) aX4_stop_56 (by decide) rfl rfl ?_
          exact t57 1 _ (by rw [if_neg c48, if_neg hz]) hm2 hf2
theorem d_stop {F : Nat} {u : Int64} {Q : List Fr} {S : St} {h : mm_H} (hl : Q.length ≤ 600) (hn : nR Q ≤ sD S) (hR : RM S Q.reverse (0, 1, -1, u) h) : mW none F mX4_stop 0 [(0, .ref 32)] [] h (fun r h' => r = none ∧ RM (r_stop Q S).1 (r_stop Q S).2.reverse (0, 0, -1, u) h' ∧ fr AM h h') := by
  obtain ⟨w, hm, r1, r2, r3, r4⟩ := hR
  have hm2 : hM S Q.reverse.length (0, 0, -1, u) w (mm_up h 32 (4, moL S Q.reverse.length (0, 0, -1, u))) := by
    intro q h1 h2
    rcases q23 q h1 h2 with rfl | rfl | rfl | rfl | rfl | rfl | rfl | rfl | rfl | rfl | rfl | rfl | rfl | rfl | rfl | rfl | rfl | rfl | rfl | rfl | rfl | rfl | rfl <;> first | exact hm _ h1 h2 |  rfl
  have k := m_stop (F := F) (h0 := h) Q S _ hl hn ⟨w, hm2, r1, r2, r3, r4⟩ (fr.rf.up (AM_l (by omega)))
  refine w_aload_n (q := 1) aX4_stop_0 rfl rfl ?_
  refine w_iconst (v := 0) (q := 2) aX4_stop_1 rfl rfl ?_
  refine w_put (q := 5) (fs' := [_, _, _, _, _, _, _, _, _, _, _, _, _, _, _, _, _, _, _, _, _, _, _, _, _, _, _, _, _, _, _]) aX4_stop_2 f_4_150 (hm 32 (by decide) (by decide)) (Nat.le_of_ble_eq_true rfl) rfl rfl (Or.inl rfl) rfl rfl ?_
  refine w_aload_n (q := 6) aX4_stop_5 rfl rfl ?_
  refine w_get (q := 9) aX4_stop_6 f_4_120 (up_s _ _ _) rfl rfl ?_
  refine w_if_le (t := 16) (q := 12) aX4_stop_9 (by decide) rfl (fun c9 => ?_) (fun c9 => ?_)
  · have hz : Q = [] := by
      have : Q.reverse.length ≤ 0 := (nI_leI (b := 0) (by rw [List.length_reverse]; omega) (by omega)).mp c9
      rw [List.length_reverse] at this
      exact List.length_eq_zero_iff.mp (by omega)
    rw [if_pos hz] at k
    refine w_iconst (v := 0) (q := 17) aX4_stop_16 rfl rfl ?_
    refine w_istore_n (q := 18) (ls' := [(1, _), (0, _)]) aX4_stop_17 (by decide) rfl rfl ?_
    exact k
  · have hz : ¬ Q = [] := fun z => c9 (by rw [z]; decide)
    rw [if_neg hz] at k
    refine w_iconst (v := 1) (q := 13) aX4_stop_12 rfl rfl ?_
    refine w_goto (t := 17) aX4_stop_13 (by decide) ?_
    refine w_istore_n (q := 18) (ls' := [(1, _), (0, _)]) aX4_stop_17 (by decide) rfl rfl ?_
    exact k
/-! how it goes on from the frame f -/
theorem d_go12 {F : Nat} {u : Int64} {P : List Fr} {f : Fr} {S : St} {h : mm_H} {X : Xs} (hl : P.length < 600) (h0 : ¬ f.1 = 0) (h2 : f.1 = 2 → ∃ o : Option Nat, f.2.1 = oI o ∧ (∀ k, o = some k → k < 2 ^ 31) ∧ X = Xb o f.2.2.1 u) (h1 : ¬ f.1 = 2 → X = (0, 0, -1, u)) (hR : RM S (P ++ [f]) (0, 0, -1, u) h) : mW none (F + 1) mX4_goesOn 0 [(0, .ref 32)] [] h (fun r h' => r = none ∧ RM S P X h' ∧ fr AM h h') := by
  obtain ⟨w, hm0, r1, r2, r3, r4⟩ := hR
  have hm : hM S (P.length + 1) (0, 0, -1, u) w h := by rw [List.length_append] at hm0; exact hm0
  obtain ⟨p1, p2, p3, -⟩ := r4.top
  have r5 := r4.pop
  refine w_aload_n (q := 1) aX4_goesOn_0 rfl rfl ?_
  refine w_get (q := 4) aX4_goesOn_1 f_4_120 (hm 32 (by decide) (by decide)) rfl rfl ?_
  refine w_iconst (v := 1) (q := 5) aX4_goesOn_4 rfl rfl ?_
  refine w_isub (q := 6) aX4_goesOn_5 rfl ?_
  rw [nI_pred]
  refine w_istore_n (q := 7) (ls' := [(1, _), (0, _)]) aX4_goesOn_6 (by decide) rfl rfl ?_
  refine w_aload_n (q := 8) aX4_goesOn_7 rfl rfl ?_
  refine w_get (q := 11) aX4_goesOn_8 f_4_56 (hm 32 (by decide) (by decide)) rfl rfl ?_
  refine w_iload_n (q := 12) aX4_goesOn_11 rfl rfl ?_
  refine w_iald (q := 13) aX4_goesOn_12 (by decide) (hm 48 (by decide) (by decide)) (mm_ix_at (n := P.length) rfl (by omega) (rg_at (by omega))) rfl ?_
  rw [p1]
  refine w_if_eq (t := 53) (q := 16) aX4_goesOn_13 (by decide) rfl (fun c13 => ?_) (fun c13 => ?_)
  · exact absurd c13 h0
  · refine w_aload_n (q := 17) aX4_goesOn_16 rfl rfl ?_
    refine w_dup (q := 18) aX4_goesOn_17 rfl rfl ?_
    refine w_get (q := 21) aX4_goesOn_18 f_4_120 (hm 32 (by decide) (by decide)) rfl rfl ?_
    refine w_iconst (v := 1) (q := 22) aX4_goesOn_21 rfl rfl ?_
    refine w_isub (q := 23) aX4_goesOn_22 rfl ?_
    rw [nI_pred]
    refine w_put (q := 26) (fs' := [_, _, _, _, _, _, _, _, _, _, _, _, _, _, _, _, _, _, _, _, _, _, _, _, _, _, _, _, _, _, _]) aX4_goesOn_23 f_4_120 (hm 32 (by decide) (by decide)) (Nat.le_of_ble_eq_true rfl) rfl rfl (Or.inl rfl) rfl rfl ?_
    have hm2 : hM S P.length (0, 0, -1, u) w (mm_up h 32 (4, moL S P.length (0, 0, -1, u))) := by
      intro q h1 h2
      rcases q23 q h1 h2 with rfl | rfl | rfl | rfl | rfl | rfl | rfl | rfl | rfl | rfl | rfl | rfl | rfl | rfl | rfl | rfl | rfl | rfl | rfl | rfl | rfl | rfl | rfl <;> first | exact hm _ h1 h2 |  rfl
    have hf2 : fr AM h (mm_up h 32 (4, moL S P.length (0, 0, -1, u))) := fr.rf.up (AM_l (by omega))
    refine w_aload_n (q := 27) aX4_goesOn_26 rfl rfl ?_
    refine w_get (q := 30) aX4_goesOn_27 f_4_56 (up_s _ _ _) rfl rfl ?_
    refine w_iload_n (q := 31) aX4_goesOn_30 rfl rfl ?_
    refine w_iald (q := 32) aX4_goesOn_31 (by decide) ((up_n (by decide)).trans (hm 48 (by decide) (by decide))) (mm_ix_at (n := P.length) rfl (by omega) (rg_at (by omega))) rfl ?_
    rw [p1]
    refine w_iconst (v := 2) (q := 33) aX4_goesOn_32 rfl rfl ?_
    refine w_ic_ne (t := 52) (q := 36) aX4_goesOn_33 (by decide) rfl (fun c33 => ?_) (fun c33 => ?_)
    · refine w_vret aX4_goesOn_52 rfl ?_
      rw [h1 c33]
      exact ⟨rfl, ⟨w, hm2, r1, r2, r3, r5⟩, hf2⟩
    · obtain ⟨o, eo, ho, eX⟩ := h2 c33
      rw [eo] at p2
      refine w_aload_n (q := 37) aX4_goesOn_36 rfl rfl ?_
      refine w_aload_n (q := 38) aX4_goesOn_37 rfl rfl ?_
      refine w_get (q := 41) aX4_goesOn_38 f_4_59 (up_s _ _ _) rfl rfl ?_
      refine w_iload_n (q := 42) aX4_goesOn_41 rfl rfl ?_
      refine w_iald (q := 43) aX4_goesOn_42 (by decide) ((up_n (by decide)).trans (hm 49 (by decide) (by decide))) (mm_ix_at (n := P.length) rfl (by omega) (rg_at (by omega))) rfl ?_
      rw [p2]
      refine w_aload_n (q := 44) aX4_goesOn_43 rfl rfl ?_
      refine w_get (q := 47) aX4_goesOn_44 f_4_62 (up_s _ _ _) rfl rfl ?_
      refine w_iload_n (q := 48) aX4_goesOn_47 rfl rfl ?_
      refine w_lald (q := 49) aX4_goesOn_48 ((up_n (by decide)).trans (hm 50 (by decide) (by decide))) (mm_ix_at (n := P.length) rfl (by omega) (rg_at (by omega))) rfl ?_
      rw [p3]
      refine w_callV aX4_goesOn_49 t_4_157 (this_at rfl (up_s _ _ _)) (rfl) (d_begins ho ⟨w, hm2, r1, r2, r3, r5⟩) (fun r49 h49 hp => ?_)
      obtain ⟨rfl, hR2, hf3⟩ := hp
      refine w_vret aX4_goesOn_52 rfl ?_
      rw [eX]
      exact ⟨rfl, hR2, hf2.tr hf3⟩
theorem d_go0e {F : Nat} {u : Int64} {P : List Fr} {i : Int32} {v : Int64} {l : List Int32} {S : St} {h : mm_H} (hl : P.length < 600) (hd : 1 ≤ sD S) (hR : RM S (P ++ [(0, i, v, l, l.length)]) (0, 0, -1, u) h) : mW none (F + 1) mX4_goesOn 0 [(0, .ref 32)] [] h (fun r h' => r = none ∧ RM (uD S (sD S - 1)) P (0, 0, -1, u) h' ∧ fr AM h h') := by
  obtain ⟨w, hm0, r1, r2, r3, r4⟩ := hR
  have hm : hM S (P.length + 1) (0, 0, -1, u) w h := by rw [List.length_append] at hm0; exact hm0
  obtain ⟨p1, p2, p3, p4⟩ := r4.top
  obtain ⟨q1, q2, q3, q4⟩ := p4 rfl
  have r5 := r4.pop
  refine w_aload_n (q := 1) aX4_goesOn_0 rfl rfl ?_
  refine w_get (q := 4) aX4_goesOn_1 f_4_120 (hm 32 (by decide) (by decide)) rfl rfl ?_
  refine w_iconst (v := 1) (q := 5) aX4_goesOn_4 rfl rfl ?_
  refine w_isub (q := 6) aX4_goesOn_5 rfl ?_
  rw [nI_pred]
  refine w_istore_n (q := 7) (ls' := [(1, _), (0, _)]) aX4_goesOn_6 (by decide) rfl rfl ?_
  refine w_aload_n (q := 8) aX4_goesOn_7 rfl rfl ?_
  refine w_get (q := 11) aX4_goesOn_8 f_4_56 (hm 32 (by decide) (by decide)) rfl rfl ?_
  refine w_iload_n (q := 12) aX4_goesOn_11 rfl rfl ?_
  refine w_iald (q := 13) aX4_goesOn_12 (by decide) (hm 48 (by decide) (by decide)) (mm_ix_at (n := P.length) rfl (by omega) (rg_at (by omega))) rfl ?_
  rw [p1]
  refine w_if_eq (t := 53) (q := 16) aX4_goesOn_13 (by decide) rfl (fun c13 => ?_) (fun c13 => ?_)
  · refine w_aload_n (q := 54) aX4_goesOn_53 rfl rfl ?_
    refine w_get (q := 57) aX4_goesOn_54 f_4_65 (hm 32 (by decide) (by decide)) rfl rfl ?_
    refine w_iload_n (q := 58) aX4_goesOn_57 rfl rfl ?_
    refine w_iald (q := 59) aX4_goesOn_58 (by decide) (hm 51 (by decide) (by decide)) (mm_ix_at (n := P.length) rfl (by omega) (rg_at (by omega))) rfl ?_
    rw [q1]
    refine w_aload_n (q := 60) aX4_goesOn_59 rfl rfl ?_
    refine w_get (q := 63) aX4_goesOn_60 f_4_68 (hm 32 (by decide) (by decide)) rfl rfl ?_
    refine w_iload_n (q := 64) aX4_goesOn_63 rfl rfl ?_
    refine w_iald (q := 65) aX4_goesOn_64 (by decide) (hm 52 (by decide) (by decide)) (mm_ix_at (n := P.length) rfl (by omega) (rg_at (by omega))) rfl ?_
    rw [q2]
    refine w_ic_ne (t := 89) (q := 68) aX4_goesOn_65 (by decide) rfl (fun c65 => ?_) (fun c65 => ?_)
    · exact absurd rfl c65
    · refine w_aload_n (q := 69) aX4_goesOn_68 rfl rfl ?_
      refine w_dup (q := 70) aX4_goesOn_69 rfl rfl ?_
      refine w_get (q := 73) aX4_goesOn_70 f_4_120 (hm 32 (by decide) (by decide)) rfl rfl ?_
      refine w_iconst (v := 1) (q := 74) aX4_goesOn_73 rfl rfl ?_
      refine w_isub (q := 75) aX4_goesOn_74 rfl ?_
      rw [nI_pred]
      refine w_put (q := 78) (fs' := [_, _, _, _, _, _, _, _, _, _, _, _, _, _, _, _, _, _, _, _, _, _, _, _, _, _, _, _, _, _, _]) aX4_goesOn_75 f_4_120 (hm 32 (by decide) (by decide)) (Nat.le_of_ble_eq_true rfl) rfl rfl (Or.inl rfl) rfl rfl ?_
      refine w_aload_n (q := 79) aX4_goesOn_78 rfl rfl ?_
      refine w_dup (q := 80) aX4_goesOn_79 rfl rfl ?_
      refine w_get (q := 83) aX4_goesOn_80 f_4_123 (up_s _ _ _) rfl rfl ?_
      refine w_iconst (v := 1) (q := 84) aX4_goesOn_83 rfl rfl ?_
      refine w_isub (q := 85) aX4_goesOn_84 rfl ?_
      obtain ⟨d, hd⟩ : ∃ d, sD S = d + 1 := ⟨sD S - 1, by omega⟩
      rw [show nI (sD S) - 1 = nI (sD S - 1) by rw [hd, nI_pred]; rfl]
      refine w_put (q := 88) (fs' := [_, _, _, _, _, _, _, _, _, _, _, _, _, _, _, _, _, _, _, _, _, _, _, _, _, _, _, _, _, _, _]) aX4_goesOn_85 f_4_123 (up_s _ _ _) (Nat.le_of_ble_eq_true rfl) rfl rfl (Or.inl rfl) rfl rfl ?_
      refine w_vret aX4_goesOn_88 rfl ?_
      refine ⟨rfl, ⟨w, ?_, r1, r2, r3, r5⟩, (fr.rf.up (AM_l (by omega))).up (AM_l (by omega))⟩
      intro q h1 h2
      rcases q23 q h1 h2 with rfl | rfl | rfl | rfl | rfl | rfl | rfl | rfl | rfl | rfl | rfl | rfl | rfl | rfl | rfl | rfl | rfl | rfl | rfl | rfl | rfl | rfl | rfl <;> first | exact hm _ h1 h2 |  rfl
  · exact absurd rfl c13
theorem rPi.next {P : List Fr} {w : Raw} {s i : Int32} {v : Int64} {l : List Int32} {n : Nat} (h : rPi (P ++ [(s, i, v, l, n)]) w) : rPi (P ++ [(s, i, v, l, n + 1)]) (w.1, w.2.1, w.2.2.1, w.2.2.2.1, w.2.2.2.2.1, w.2.2.2.2.2.1, w.2.2.2.2.2.2.1, fu w.2.2.2.2.2.2.2.1 P.length (nI (n + 1)), w.2.2.2.2.2.2.2.2.1, w.2.2.2.2.2.2.2.2.2) := by
  intro p f hp
  by_cases e : p < P.length
  · rw [List.getElem?_append_left e] at hp
    obtain ⟨g1, g2, g3, g4⟩ := h p f (by rw [List.getElem?_append_left e]; exact hp)
    refine ⟨g1, g2, g3, fun z => ?_⟩
    obtain ⟨k1, k2⟩ := g4 z
    exact ⟨(fu_n (by omega)).trans k1, k2⟩
  · have e2 : p = P.length := by
      have := (List.getElem?_eq_some_iff.mp hp).1
      simp at this
      omega
    subst e2
    simp at hp
    subst hp
    obtain ⟨g1, g2, g3, g4⟩ := h.top
    refine ⟨g1, g2, g3, fun z => ?_⟩
    obtain ⟨k1, k2⟩ := g4 z
    exact ⟨fu_s, k2⟩
theorem d_go0n {F : Nat} {u : Int64} {P : List Fr} {k : Nat} {v : Int64} {l : List Int32} {n : Nat} {x : Int32} {S : St} {h : mm_H} (hl : P.length < 600) (hk : k < 6) (hx : l[n]? = some x) (hxm : rN (sM S) x) (ho : Ok S) (hR : RM S (P ++ [(0, nI k, v, l, n)]) (0, 0, -1, u) h) : mW none (F + 1) mX4_goesOn 0 [(0, .ref 32)] [] h (fun r h' => r = none ∧ RM S (P ++ [(0, nI k, v, l, n + 1)]) (if x ∈ sL S k then Xb (sH S x.toNatClampNeg) v u else (0, 0, -1, u)) h' ∧ fr AM h h') := by
  have hM40 := ho.1
  obtain ⟨w, hm0, r1, r2, r3, r4⟩ := hR
  have hm : hM S (P.length + 1) (0, 0, -1, u) w h := by rw [List.length_append] at hm0; exact hm0
  obtain ⟨p1, p2, p3, p4⟩ := r4.top
  obtain ⟨q1, q2, q3, q4⟩ := p4 rfl
  have r5 := r4.next
  have hnl : n < l.length := (List.getElem?_eq_some_iff.mp hx).1
  have q5 := q4 n x hx
  have q3' : l.length ≤ 12 := q3
  refine w_aload_n (q := 1) aX4_goesOn_0 rfl rfl ?_
  refine w_get (q := 4) aX4_goesOn_1 f_4_120 (hm 32 (by decide) (by decide)) rfl rfl ?_
  refine w_iconst (v := 1) (q := 5) aX4_goesOn_4 rfl rfl ?_
  refine w_isub (q := 6) aX4_goesOn_5 rfl ?_
  rw [nI_pred]
  refine w_istore_n (q := 7) (ls' := [(1, _), (0, _)]) aX4_goesOn_6 (by decide) rfl rfl ?_
  refine w_aload_n (q := 8) aX4_goesOn_7 rfl rfl ?_
  refine w_get (q := 11) aX4_goesOn_8 f_4_56 (hm 32 (by decide) (by decide)) rfl rfl ?_
  refine w_iload_n (q := 12) aX4_goesOn_11 rfl rfl ?_
  refine w_iald (q := 13) aX4_goesOn_12 (by decide) (hm 48 (by decide) (by decide)) (mm_ix_at (n := P.length) rfl (by omega) (rg_at (by omega))) rfl ?_
  rw [p1]
  refine w_if_eq (t := 53) (q := 16) aX4_goesOn_13 (by decide) rfl (fun c13 => ?_) (fun c13 => ?_)
  · refine w_aload_n (q := 54) aX4_goesOn_53 rfl rfl ?_
    refine w_get (q := 57) aX4_goesOn_54 f_4_65 (hm 32 (by decide) (by decide)) rfl rfl ?_
    refine w_iload_n (q := 58) aX4_goesOn_57 rfl rfl ?_
    refine w_iald (q := 59) aX4_goesOn_58 (by decide) (hm 51 (by decide) (by decide)) (mm_ix_at (n := P.length) rfl (by omega) (rg_at (by omega))) rfl ?_
    rw [q1]
    refine w_aload_n (q := 60) aX4_goesOn_59 rfl rfl ?_
    refine w_get (q := 63) aX4_goesOn_60 f_4_68 (hm 32 (by decide) (by decide)) rfl rfl ?_
    refine w_iload_n (q := 64) aX4_goesOn_63 rfl rfl ?_
    refine w_iald (q := 65) aX4_goesOn_64 (by decide) (hm 52 (by decide) (by decide)) (mm_ix_at (n := P.length) rfl (by omega) (rg_at (by omega))) rfl ?_
    rw [q2]
    refine w_ic_ne (t := 89) (q := 68) aX4_goesOn_65 (by decide) rfl (fun c65 => ?_) (fun c65 => ?_)
    · refine w_aload_n (q := 90) aX4_goesOn_89 rfl rfl ?_
      refine w_get (q := 93) aX4_goesOn_90 f_4_71 (hm 32 (by decide) (by decide)) rfl rfl ?_
      refine w_bipush (v := 12) (q := 95) aX4_goesOn_93 rfl rfl ?_
      refine w_iload_n (q := 96) aX4_goesOn_95 rfl rfl ?_
      refine w_imul (q := 97) aX4_goesOn_96 rfl ?_
      refine w_aload_n (q := 98) aX4_goesOn_97 rfl rfl ?_
      refine w_get (q := 101) aX4_goesOn_98 f_4_65 (hm 32 (by decide) (by decide)) rfl rfl ?_
      refine w_iload_n (q := 102) aX4_goesOn_101 rfl rfl ?_
      refine w_iald (q := 103) aX4_goesOn_102 (by decide) (hm 51 (by decide) (by decide)) (mm_ix_at (n := P.length) rfl (by omega) (rg_at (by omega))) rfl ?_
      rw [q1]
      refine w_iadd (q := 104) aX4_goesOn_103 rfl ?_
      rw [m12]
      refine w_iald (q := 105) aX4_goesOn_104 (by decide) (hm 53 (by decide) (by decide)) (mm_ix_at (n := 12 * P.length + n) rfl (by omega) (rg_at (by omega))) rfl ?_
      rw [q5]
      refine w_istore_n (q := 106) (ls' := [(2, _), (1, _), (0, _)]) aX4_goesOn_105 (by decide) rfl rfl ?_
      refine w_aload_n (q := 107) aX4_goesOn_106 rfl rfl ?_
      refine w_get (q := 110) aX4_goesOn_107 f_4_65 (hm 32 (by decide) (by decide)) rfl rfl ?_
      refine w_iload_n (q := 111) aX4_goesOn_110 rfl rfl ?_
      refine w_dup2 (q := 112) aX4_goesOn_111 ⟨rfl, rfl⟩ rfl ?_
      refine w_iald (q := 113) aX4_goesOn_112 (by decide) (hm 51 (by decide) (by decide)) (mm_ix_at (n := P.length) rfl (by omega) (rg_at (by omega))) rfl ?_
      rw [q1]
      refine w_iconst (v := 1) (q := 114) aX4_goesOn_113 rfl rfl ?_
      refine w_iadd (q := 115) aX4_goesOn_114 rfl ?_
      rw [nI_1]
      refine w_iast (q := 116) (n := P.length) (vs' := _) aX4_goesOn_115 (hm 51 (by decide) (by decide)) (rfl) (by rw [rg_len]; omega) (by rw [rg_len]; omega) (rg_set _ _ _ _) rfl ?_
      have e51 : fu (fun j => Value.int (w.2.2.2.2.2.2.2.1 j)) P.length (.int (nI (n + 1))) = fun j => Value.int (fu w.2.2.2.2.2.2.2.1 P.length (nI (n + 1)) j) := fu_map Value.int _ _ _
      have hm2 : hM S (P.length + 1) (0, 0, -1, u) (w.1, w.2.1, w.2.2.1, w.2.2.2.1, w.2.2.2.2.1, w.2.2.2.2.2.1, w.2.2.2.2.2.2.1, fu w.2.2.2.2.2.2.2.1 P.length (nI (n + 1)), w.2.2.2.2.2.2.2.2.1, w.2.2.2.2.2.2.2.2.2) (mm_up h 51 (5, rg 600 (fu (fun j => Value.int (w.2.2.2.2.2.2.2.1 j)) P.length (.int (nI (n + 1)))))) := by
        intro q h1 h2
        rcases q23 q h1 h2 with rfl | rfl | rfl | rfl | rfl | rfl | rfl | rfl | rfl | rfl | rfl | rfl | rfl | rfl | rfl | rfl | rfl | rfl | rfl | rfl | rfl | rfl | rfl <;> first | exact hm _ h1 h2 | exact congrArg (fun z => some ((5 : Nat), rg 600 z)) e51 |  rfl
      have hR2 : RM S (P ++ [(0, nI k, v, l, n + 1)]) (0, 0, -1, u) (mm_up h 51 (5, rg 600 (fu (fun j => Value.int (w.2.2.2.2.2.2.2.1 j)) P.length (.int (nI (n + 1)))))) := ⟨(w.1, w.2.1, w.2.2.1, w.2.2.2.1, w.2.2.2.2.1, w.2.2.2.2.2.1, w.2.2.2.2.2.2.1, fu w.2.2.2.2.2.2.2.1 P.length (nI (n + 1)), w.2.2.2.2.2.2.2.2.1, w.2.2.2.2.2.2.2.2.2), by rw [List.length_append]; exact hm2, r1, r2, r3, r5⟩
      have hf2 : fr AM h (mm_up h 51 (5, rg 600 (fu (fun j => Value.int (w.2.2.2.2.2.2.2.1 j)) P.length (.int (nI (n + 1)))))) := fr.rf.up (AM_l (by omega))
      generalize mm_up h 51 (5, rg 600 (fu (fun j => Value.int (w.2.2.2.2.2.2.2.1 j)) P.length (.int (nI (n + 1))))) = h2 at hm2 hR2 hf2
      refine w_aload_n (q := 117) aX4_goesOn_116 rfl rfl ?_
      refine w_iload_n (q := 118) aX4_goesOn_117 rfl rfl ?_
      refine w_aload_n (q := 119) aX4_goesOn_118 rfl rfl ?_
      refine w_get (q := 122) aX4_goesOn_119 f_4_59 (hm2 32 (by decide) (by decide)) rfl rfl ?_
      refine w_iload_n (q := 123) aX4_goesOn_122 rfl rfl ?_
      refine w_iald (q := 124) aX4_goesOn_123 (by decide) (hm2 49 (by decide) (by decide)) (mm_ix_at (n := P.length) rfl (by omega) (rg_at (by omega))) rfl ?_
      rw [p2]
      refine w_callV aX4_goesOn_124 t_4_109 (this_at rfl (hm2 32 (by decide) (by decide))) (rfl) (d_placeOf hk hm2 r1) (fun r124 h124 hp => ?_)
      obtain ⟨rfl, rfl⟩ := hp
      refine w_iconst (v := -1) (q := 128) aX4_goesOn_127 rfl rfl ?_
      refine w_ic_eq (t := 147) (q := 131) aX4_goesOn_128 (by decide) rfl (fun c128 => ?_) (fun c128 => ?_)
      · refine w_vret aX4_goesOn_147 rfl ?_
        have := (pls_m1 (by have := (r1 k hk).1; omega)).mp c128
        rw [if_neg this]
        exact ⟨rfl, hR2, hf2⟩
      · have hin : x ∈ sL S k := Classical.byContradiction fun z => c128 (pls_no z)
        rw [if_pos hin]
        obtain ⟨j, hj, rfl⟩ := rN_of (by omega) hxm
        rw [nI_clamp (by omega)]
        refine w_aload_n (q := 132) aX4_goesOn_131 rfl rfl ?_
        refine w_aload_n (q := 133) aX4_goesOn_132 rfl rfl ?_
        refine w_get (q := 136) aX4_goesOn_133 f_4_47 (hm2 32 (by decide) (by decide)) rfl rfl ?_
        refine w_iload_n (q := 137) aX4_goesOn_136 rfl rfl ?_
        refine w_iald (q := 138) aX4_goesOn_137 (by decide) (hm2 45 (by decide) (by decide)) (mm_ix_at (n := j) rfl (by omega) (rg_at (by omega))) rfl ?_
        rw [if_pos hj]
        refine w_aload_n (q := 139) aX4_goesOn_138 rfl rfl ?_
        refine w_get (q := 142) aX4_goesOn_139 f_4_62 (hm2 32 (by decide) (by decide)) rfl rfl ?_
        refine w_iload_n (q := 143) aX4_goesOn_142 rfl rfl ?_
        refine w_lald (q := 144) aX4_goesOn_143 (hm2 50 (by decide) (by decide)) (mm_ix_at (n := P.length) rfl (by omega) (rg_at (by omega))) rfl ?_
        rw [p3]
        refine w_callV aX4_goesOn_144 t_4_157 (this_at rfl (hm2 32 (by decide) (by decide))) (rfl) (d_begins (fun q hq => by have := ho.2.1 j q hq; omega) hR2) (fun r144 h144 hp => ?_)
        obtain ⟨rfl, hR3, hf3⟩ := hp
        refine w_vret aX4_goesOn_147 rfl ?_
        exact ⟨rfl, hR3, hf2.tr hf3⟩
    · exact absurd ((nI_iff (a := n) (b := l.length) (by omega) (by omega)).mp c65) (by omega)
  · exact absurd rfl c13
end
section
theorem nI_div {a b : Nat} (ha : a < 2 ^ 31) (hb : b < 2 ^ 31) : nI a / nI b = nI (a / b) := by
  have hd : a / b ≤ a := Nat.div_le_self a b
  apply Int32.toInt_inj.mp
  rw [Int32.toInt_div, nI_toInt ha, nI_toInt hb, nI_toInt (by omega)]
  rw [Int.tdiv_eq_ediv_of_nonneg (Int.natCast_nonneg a), ← Int.natCast_ediv]
  generalize a / b = q at hd ⊢
  exact Int.bmod_eq_of_le (by omega) (by omega)
theorem nI_rem {a b : Nat} (ha : a < 2 ^ 31) (hb : b < 2 ^ 31) : nI a - nI a / nI b * nI b = nI (a % b) := by
  have e : a = a % b + a / b * b := by rw [Nat.mul_comm]; exact (Nat.mod_add_div a b).symm
  rw [nI_div ha hb, pk_mul]
  have e2 : nI a = nI (a % b) + nI (a / b * b) := by rw [nI_add]; exact congrArg nI e
  rw [e2]
  exact Int32.add_sub_cancel _ _
/-- a FIRST -/
theorem rTm_first {A : Act9} {n : Nat} {t : Int32} (hA : A.1 = 8) (hn : n + 1 < 2 ^ 31) (h : rTm A n t) : (t < A.2.2.1 ↔ nI (n + 1) ≤ A.2.2.1) ∧ (t < A.2.2.1 → rTm A (n + 1) (t + 1)) ∧ (¬ t < A.2.2.1 → rTm A (n + 1) t) := by
  obtain ⟨c, rfl, h1, h2, h3⟩ := h.1 hA
  have e1 : nI c < A.2.2.1 ↔ (c : Int) < A.2.2.1.toInt := by rw [Int32.lt_iff_toInt_lt, nI_toInt (by omega)]
  have e2 : nI (n + 1) ≤ A.2.2.1 ↔ ((n + 1 : Nat) : Int) ≤ A.2.2.1.toInt := by rw [Int32.le_iff_toInt_le, nI_toInt (by omega)]
  rw [e1, e2]
  refine ⟨⟨fun z => ?_, fun z => ?_⟩, fun z => ⟨fun _ => ⟨c + 1, nI_1 c, by omega, fun _ => ?_, fun _ => ?_⟩, fun z9 => absurd (hA.symm.trans z9) (by decide)⟩, fun z => ⟨fun _ => ⟨c, rfl, by omega, fun _ => ?_, fun _ => ?_⟩, fun z9 => absurd (hA.symm.trans z9) (by decide)⟩⟩
  · by_cases hlt : (n : Int) < A.2.2.1.toInt
    · omega
    · have := h3 (by omega)
      omega
  · omega
  · have := h2 (by omega)
    omega
  · by_cases hlt : (n : Int) < A.2.2.1.toInt
    · have := h2 hlt
      omega
    · have := h3 (by omega)
      omega
  · by_cases hlt : (n : Int) < A.2.2.1.toInt
    · have := h2 hlt
      omega
    · omega
  · omega
/-- an EACH -/
theorem rTm_each {A : Act9} {n : Nat} {t : Int32} (hA : A.1 = 9) (hn : n + 1 < 2 ^ 31) (h : rTm A n t) : (¬ t + 1 < A.2.2.1 ↔ nI (n + 1) - nI (n + 1) / (if A.2.2.1 < 1 then 1 else A.2.2.1) * (if A.2.2.1 < 1 then 1 else A.2.2.1) = 0) ∧ (t + 1 < A.2.2.1 → rTm A (n + 1) (t + 1)) ∧ (¬ t + 1 < A.2.2.1 → rTm A (n + 1) 0) := by
  obtain ⟨c, rfl, hc⟩ := h.2 hA
  rw [nI_1]
  by_cases hb : A.2.2.1 < 1
  · rw [if_pos hb] at hc ⊢
    have hc0 : c = 0 := by rw [hc]; exact Nat.mod_one n
    subst hc0
    have e1 : ¬ nI (0 + 1) < A.2.2.1 := fun z => Int32.lt_asymm z hb
    refine ⟨⟨fun _ => ?_, fun _ => e1⟩, fun z => absurd z e1, fun _ => ⟨fun z8 => absurd (hA.symm.trans z8) (by decide), fun _ => ⟨0, rfl, ?_⟩⟩⟩
    · rw [show (1 : Int32) = nI 1 from rfl, nI_rem hn (by omega), Nat.mod_one]
      rfl
    · rw [if_pos hb, Nat.mod_one]
  · rw [if_neg hb] at hc ⊢
    have hb2 := Int32.not_lt.mp hb
    rw [Int32.le_iff_toInt_le] at hb2
    have hb3 : (1 : Int) ≤ A.2.2.1.toInt := hb2
    obtain ⟨q, hq, eq⟩ : ∃ q : Nat, q < 2 ^ 31 ∧ A.2.2.1 = nI q := by
      have hlt := Int32.toInt_lt A.2.2.1
      refine ⟨A.2.2.1.toInt.toNat, by omega, Int32.toInt_inj.mp ?_⟩
      rw [nI_toInt (by omega)]
      omega
    have hq1 : 1 ≤ q := by rw [eq, nI_toInt hq] at hb3; omega
    rw [eq, nI_clamp hq] at hc
    rw [eq]
    have hcq : c < q := by rw [hc]; exact Nat.mod_lt _ (by omega)
    have hm : (n + 1) % q = if c + 1 = q then 0 else c + 1 := by
      rw [hc, Nat.add_mod]
      by_cases h1 : q = 1
      · subst h1
        simp [Nat.mod_one]
      · rw [Nat.mod_eq_of_lt (show 1 < q by omega)]
        split
        · rename_i e
          rw [e, Nat.mod_self]
        · rename_i e
          exact Nat.mod_eq_of_lt (by rw [← hc] at e ⊢; omega)
    have e1 : ¬ nI (c + 1) < nI q ↔ c + 1 = q := by
      refine ⟨fun z => ?_, fun z => ?_⟩
      · by_cases h : c + 1 < q
        · exact absurd (nI_lt h hq) z
        · omega
      · rw [z]
        exact Int32.lt_irrefl
    refine ⟨e1.trans ?_, fun z => ⟨fun z8 => absurd (hA.symm.trans z8) (by decide), fun _ => ⟨c + 1, rfl, ?_⟩⟩, fun z => ⟨fun z8 => absurd (hA.symm.trans z8) (by decide), fun _ => ⟨0, rfl, ?_⟩⟩⟩
    · rw [nI_rem hn hq, hm, show (0 : Int32) = nI 0 from rfl, nI_iff (by split <;> omega) (by omega)]
      split
      · rename_i e
        exact ⟨fun _ => rfl, fun _ => e⟩
      · rename_i e
        exact ⟨fun z => absurd z e, fun z => by omega⟩
    · rw [eq, if_neg (by rw [← eq]; exact hb), nI_clamp hq, hm, if_neg (fun y => absurd z (e1.mpr y))]
    · rw [eq, if_neg (by rw [← eq]; exact hb), nI_clamp hq, hm, if_pos (e1.mp z)]
theorem rTi.begin {S : St} {ti : Nat → Int32} {k : Nat} (h8 : ¬ (sA S k).1 = 8) (h9 : ¬ (sA S k).1 = 9) (h : rTi S ti) : rTi (m_begin S k) ti := by
  intro j hj
  by_cases e : j = k
  · subst e
    exact ⟨fun z => absurd z h8, fun z => absurd z h9⟩
  · show rTm (sA S j) (fu (sB S) k (sB S k + 1) j) (ti j)
    rw [fu_n e]
    exact h j hj
theorem rTi.beginT {S : St} {ti : Nat → Int32} {k : Nat} {t : Int32} (ht : rTm (sA S k) (sB S k + 1) t) (h : rTi S ti) : rTi (m_begin S k) (fu ti k t) := by
  intro j hj
  show rTm (sA S j) (fu (sB S) k (sB S k + 1) j) (fu ti k t j)
  by_cases e : j = k
  · subst e
    rw [fu_s, fu_s]
    exact ht
  · rw [fu_n e, fu_n e]
    exact h j hj
theorem rTi.beginS {S : St} {ti : Nat → Int32} {k : Nat} (ht : rTm (sA S k) (sB S k + 1) (ti k)) (h : rTi S ti) : rTi (m_begin S k) ti := by
  have := h.beginT ht
  rw [fu_id] at this
  exact this
/-- what the reference does at an act's beginning -/
def r_do (s : Nat) (S : St) (k : Nat) (A : Act9) (v : Int64) (P : List Fr) : St × List Fr × Xs := match s with
  | 5 => r_rings S A.2.1.toNatClampNeg (v + A.2.2.1.toInt64) v P
  | 8 => (S, P, if nI (sB S k) ≤ A.2.2.1 then Xb A.2.2.2.2.1 v v else (0, 0, -1, v))
  | 9 => (S, P, if nI (sB S k) - nI (sB S k) / (if A.2.2.1 < 1 then 1 else A.2.2.1) * (if A.2.2.1 < 1 then 1 else A.2.2.1) = 0 then Xb A.2.2.2.2.1 v v else (0, 0, -1, v))
  | 10 => (S, P, if 0 < sT S A.2.2.1.toNatClampNeg then Xb A.2.2.2.2.1 v v else (0, 0, -1, v))
  | 11 => (S, P ++ [(2, oI A.2.2.2.2.2, v, [], 0)], Xb A.2.2.2.2.1 v v)
  | 12 => (S, P ++ [(1, A.2.2.1, v, [], 0)], Xb A.2.2.2.2.1 v v)
  | s => ((m_al s S A v).2, P, Xe (m_al s S A v).1 v)
theorem r_do_5 (S : St) (k : Nat) (A : Act9) (v : Int64) (P : List Fr) : r_do 5 S k A v P = r_rings S A.2.1.toNatClampNeg (v + A.2.2.1.toInt64) v P := rfl
theorem r_do_8 (S : St) (k : Nat) (A : Act9) (v : Int64) (P : List Fr) : r_do 8 S k A v P = (S, P, if nI (sB S k) ≤ A.2.2.1 then Xb A.2.2.2.2.1 v v else (0, 0, -1, v)) := rfl
theorem r_do_9 (S : St) (k : Nat) (A : Act9) (v : Int64) (P : List Fr) : r_do 9 S k A v P = (S, P, if nI (sB S k) - nI (sB S k) / (if A.2.2.1 < 1 then 1 else A.2.2.1) * (if A.2.2.1 < 1 then 1 else A.2.2.1) = 0 then Xb A.2.2.2.2.1 v v else (0, 0, -1, v)) := rfl
theorem r_do_10 (S : St) (k : Nat) (A : Act9) (v : Int64) (P : List Fr) : r_do 10 S k A v P = (S, P, if 0 < sT S A.2.2.1.toNatClampNeg then Xb A.2.2.2.2.1 v v else (0, 0, -1, v)) := rfl
theorem r_do_11 (S : St) (k : Nat) (A : Act9) (v : Int64) (P : List Fr) : r_do 11 S k A v P = (S, P ++ [(2, oI A.2.2.2.2.2, v, [], 0)], Xb A.2.2.2.2.1 v v) := rfl
theorem r_do_12 (S : St) (k : Nat) (A : Act9) (v : Int64) (P : List Fr) : r_do 12 S k A v P = (S, P ++ [(1, A.2.2.1, v, [], 0)], Xb A.2.2.2.2.1 v v) := rfl
end
section
/-- what holds when others are done: the cells at the act's beginning, the rest as it was before -/
def Bg (S : St) (k : Nat) (v : Int64) (P : List Fr) (w : Raw) (h : mm_H) : Prop := hM (m_begin S k) P.length (0, 0, -1, v) w h ∧ rLn S w.1 ∧ rTi S w.2.1 ∧ rQu S w.2.2.1 w.2.2.2.1 ∧ rPi P w
theorem Bg.rm {S : St} {k : Nat} {v : Int64} {P : List Fr} {w : Raw} {h : mm_H} (b : Bg S k v P w h) (h8 : ¬ (sA S k).1 = 8) (h9 : ¬ (sA S k).1 = 9) : RM (m_begin S k) P (0, 0, -1, v) h := ⟨w, b.1, b.2.1, b.2.2.1.begin h8 h9, b.2.2.2⟩
def doP (q : St × List Fr × Xs) (h : mm_H) : Option Value → mm_H → Prop := fun r h' => r = none ∧ RM q.1 q.2.1 q.2.2 h' ∧ fr AM h h'
theorem l_cut {F : Nat} {S : St} {P : List Fr} {X : Xs} {x b : Int32} {kk : Int32} {v : Int64} {h0 : mm_H} : ∀ (m k : Nat) (h : mm_H), m + k = 6 → RM (uL S (cutL (sL S) x k)) P X h → fr AM h0 h → mW none (F + 2) mX4_doesOthers 214 [(6, .int (nI k)), (5, .int b), (4, .int x), (0, .ref 32), (1, .int kk), (2, .long v)] [] h (doP (uL S (cutL (sL S) x 6), P, X) h0) := by
  intro m
  induction m with
  | zero =>
    intro k h hk hR hf
    obtain rfl : k = 6 := by omega
    refine w_iload (q := 216) aX4_doesOthers_214 rfl rfl ?_
    refine w_bipush (v := 6) (q := 218) aX4_doesOthers_216 rfl rfl ?_
    refine w_ic_ge (t := 237) (q := 221) aX4_doesOthers_218 (by decide) rfl (fun c218 => ?_) (fun c218 => ?_)
    · refine w_goto (t := 280) aX4_doesOthers_237 (by decide) ?_
      refine w_vret aX4_doesOthers_280 rfl ?_
      exact ⟨rfl, hR, hf⟩
    · exact absurd (by decide) c218
  | succ m ih =>
    intro k h hk hR hf
    refine w_iload (q := 216) aX4_doesOthers_214 rfl rfl ?_
    refine w_bipush (v := 6) (q := 218) aX4_doesOthers_216 rfl rfl ?_
    refine w_ic_ge (t := 237) (q := 221) aX4_doesOthers_218 (by decide) rfl (fun c218 => ?_) (fun c218 => ?_)
    · exact absurd c218 (nI_ge (b := 6) (by omega) (by omega))
    · obtain ⟨w, hm, hr⟩ := hR
      refine w_aload_n (q := 222) aX4_doesOthers_221 rfl rfl ?_
      refine w_iload (q := 224) aX4_doesOthers_222 rfl rfl ?_
      refine w_iload (q := 226) aX4_doesOthers_224 rfl rfl ?_
      refine w_callV aX4_doesOthers_226 t_4_117 (this_at rfl (hm 32 (by decide) (by decide))) (rfl) (d_out (b := k) (by omega) ⟨w, hm, hr⟩) (fun r226 h226 hp => ?_)
      obtain ⟨rfl, hR2, hf2⟩ := hp
      refine w_istore (q := 231) (ls' := [(7, _), (6, _), (5, _), (4, _), (0, _), (1, _), (2, _)]) aX4_doesOthers_229 (by decide) rfl rfl ?_
      refine w_iinc (q := 234) (ls' := [(6, _), (7, _), (5, _), (4, _), (0, _), (1, _), (2, _)]) aX4_doesOthers_231 rfl rfl (by decide) rfl rfl ?_
      refine w_goto (t := 214) aX4_doesOthers_234 (by decide) ?_
      have e : fu (sL (uL S (cutL (sL S) x k))) k ((sL (uL S (cutL (sL S) x k)) k).erase x) = cutL (sL S) x (k + 1) := by
        funext j
        show fu (cutL (sL S) x k) k ((cutL (sL S) x k k).erase x) j = _
        unfold cutL
        by_cases e : j = k
        · subst e
          rw [fu_s, if_neg (by omega), if_pos (by omega)]
        · rw [fu_n e]
          by_cases e2 : j < k
          · rw [if_pos e2, if_pos (by omega)]
          · rw [if_neg e2, if_neg (by omega)]
      rw [e] at hR2
      rw [show nI k + Int32.ofInt 1 = nI (k + 1) from nI_1 k]
      exact (ih (k + 1) h226 (by omega) hR2 (hf.tr hf2)).ls (Rl.cons (Rl.cons (Rl.cons (Rl.cons (Rl.cons (Rl.cons Rl.nil rfl) rfl) rfl) rfl) rfl) rfl)
set_option maxHeartbeats 1000000 in
theorem d_doesOthers {F : Nat} {h : mm_H} {S : St} {P : List Fr} {k s : Nat} {v : Int64} {w : Raw} (hk : k < sM S) (ho : Ok S) (hs : (sA S k).1 = nI s) (h8 : 8 ≤ s) (h15 : s < 15) (hb : sB S k + 1 < 2 ^ 31) (hn : P.length < 600) (B : Bg S k v P w h) : mW none (F + 2) mX4_doesOthers 0 [(0, .ref 32), (1, .int (nI k)), (2, .long v)] [] h (doP (r_do s (m_begin S k) k (sA S k) v P) h) := by
  have hM40 := ho.1
  have hA := ho.2.2.1 k hk
  have hcan := hA.1
  rw [hs] at hcan
  obtain ⟨hm, r1, r2, r3, r4⟩ := B
  have hone : ∀ q, (sA S k).2.2.2.2.1 = some q → q < 2 ^ 31 := fun q hq => by have := hA.2.1 q hq; omega
  have g37 : (if k < sM (m_begin S k) then (sA (m_begin S k) k).1 else 0) = (sA S k).1 := if_pos hk
  have g38 : (if k < sM (m_begin S k) then (sA (m_begin S k) k).2.1 else 0) = (sA S k).2.1 := if_pos hk
  have g39 : (if k < sM (m_begin S k) then (sA (m_begin S k) k).2.2.1 else 0) = (sA S k).2.2.1 := if_pos hk
  have g41 : (if k < sM (m_begin S k) then oI (sA (m_begin S k) k).2.2.2.2.1 else 0) = oI (sA S k).2.2.2.2.1 := if_pos hk
  have g42 : (if k < sM (m_begin S k) then oI (sA (m_begin S k) k).2.2.2.2.2 else 0) = oI (sA S k).2.2.2.2.2 := if_pos hk
  refine w_aload_n (q := 1) aX4_doesOthers_0 rfl rfl ?_
  refine w_get (q := 4) aX4_doesOthers_1 f_4_26 (hm 32 (by decide) (by decide)) rfl rfl ?_
  refine w_iload_n (q := 5) aX4_doesOthers_4 rfl rfl ?_
  refine w_iald (q := 6) aX4_doesOthers_5 (by decide) (hm 38 (by decide) (by decide)) (mm_ix_at (n := k) rfl (by omega) (rg_at (by omega))) rfl ?_
  rw [g38]
  refine w_istore (q := 8) (ls' := [(4, _), (0, _), (1, _), (2, _)]) aX4_doesOthers_6 (by decide) rfl rfl ?_
  refine w_aload_n (q := 9) aX4_doesOthers_8 rfl rfl ?_
  refine w_get (q := 12) aX4_doesOthers_9 f_4_29 (hm 32 (by decide) (by decide)) rfl rfl ?_
  refine w_iload_n (q := 13) aX4_doesOthers_12 rfl rfl ?_
  refine w_iald (q := 14) aX4_doesOthers_13 (by decide) (hm 39 (by decide) (by decide)) (mm_ix_at (n := k) rfl (by omega) (rg_at (by omega))) rfl ?_
  rw [g39]
  refine w_istore (q := 16) (ls' := [(5, _), (4, _), (0, _), (1, _), (2, _)]) aX4_doesOthers_14 (by decide) rfl rfl ?_
  refine w_aload_n (q := 17) aX4_doesOthers_16 rfl rfl ?_
  refine w_get (q := 20) aX4_doesOthers_17 f_4_23 (hm 32 (by decide) (by decide)) rfl rfl ?_
  refine w_iload_n (q := 21) aX4_doesOthers_20 rfl rfl ?_
  refine w_iald (q := 22) aX4_doesOthers_21 (by decide) (hm 37 (by decide) (by decide)) (mm_ix_at (n := k) rfl (by omega) (rg_at (by omega))) rfl ?_
  rw [g37, hs]
  have hcs : s = 8 ∨ s = 9 ∨ s = 10 ∨ s = 11 ∨ s = 12 ∨ s = 13 ∨ s = 14 := by omega
  rcases hcs with rfl | rfl | rfl | rfl | rfl | rfl | rfl
  · rw [r_do_8]
    have ht := rTm_first hs hb (r2 k hk)
    have eB : sB (m_begin S k) k = sB S k + 1 := fu_s
    rw [eB]
    refine w_table (t := 60) (o := 38) aX4_doesOthers_22 (by skip; decide) (by skip; decide) (by skip; rfl) (by decide) ?_
    refine w_aload_n (q := 61) aX4_doesOthers_60 rfl rfl ?_
    refine w_get (q := 64) aX4_doesOthers_61 f_4_41 (hm 32 (by decide) (by decide)) rfl rfl ?_
    refine w_iload_n (q := 65) aX4_doesOthers_64 rfl rfl ?_
    refine w_iald (q := 66) aX4_doesOthers_65 (by decide) (hm 43 (by decide) (by decide)) (mm_ix_at (n := k) rfl (by omega) (rg_at (by omega))) rfl ?_
    refine w_iload (q := 68) aX4_doesOthers_66 rfl rfl ?_
    refine w_ic_ge (t := 280) (q := 71) aX4_doesOthers_68 (by decide) rfl (fun c68 => ?_) (fun c68 => ?_)
    · have hlt := Int32.not_lt.mpr c68
      rw [if_neg (fun z => hlt (ht.1.mpr z))]
      refine w_vret aX4_doesOthers_280 rfl ?_
      exact ⟨rfl, ⟨w, hm, r1, r2.beginS (ht.2.2 hlt), r3, r4⟩, fr.rf⟩
    · have hlt := Int32.not_le.mp c68
      rw [if_pos (ht.1.mp hlt)]
      refine w_aload_n (q := 72) aX4_doesOthers_71 rfl rfl ?_
      refine w_get (q := 75) aX4_doesOthers_72 f_4_41 (hm 32 (by decide) (by decide)) rfl rfl ?_
      refine w_iload_n (q := 76) aX4_doesOthers_75 rfl rfl ?_
      refine w_dup2 (q := 77) aX4_doesOthers_76 ⟨rfl, rfl⟩ rfl ?_
      refine w_iald (q := 78) aX4_doesOthers_77 (by decide) (hm 43 (by decide) (by decide)) (mm_ix_at (n := k) rfl (by omega) (rg_at (by omega))) rfl ?_
      refine w_iconst (v := 1) (q := 79) aX4_doesOthers_78 rfl rfl ?_
      refine w_iadd (q := 80) aX4_doesOthers_79 rfl ?_
      refine w_iast (q := 81) (n := k) (vs' := _) aX4_doesOthers_80 (hm 43 (by decide) (by decide)) (rfl) (by rw [rg_len]; omega) (by rw [rg_len]; omega) (rg_set _ _ _ _) rfl ?_
      have e43 : fu (fun j => Value.int (w.2.1 j)) k (.int (w.2.1 k + 1)) = fun j => Value.int (fu w.2.1 k (w.2.1 k + 1) j) := fu_map Value.int _ _ _
      have hm2 : hM (m_begin S k) P.length (0, 0, -1, v) (w.1, fu w.2.1 k (w.2.1 k + 1), w.2.2) (mm_up h 43 (5, rg 40 (fu (fun j => Value.int (w.2.1 j)) k (.int (w.2.1 k + 1))))) := by
        intro q h1 h2
        rcases q23 q h1 h2 with rfl | rfl | rfl | rfl | rfl | rfl | rfl | rfl | rfl | rfl | rfl | rfl | rfl | rfl | rfl | rfl | rfl | rfl | rfl | rfl | rfl | rfl | rfl <;> first | exact hm _ h1 h2 | exact congrArg (fun z => some ((5 : Nat), rg 40 z)) e43 |  rfl
      have hR2 : RM (m_begin S k) P (0, 0, -1, v) (mm_up h 43 (5, rg 40 (fu (fun j => Value.int (w.2.1 j)) k (.int (w.2.1 k + 1))))) := ⟨(w.1, fu w.2.1 k (w.2.1 k + 1), w.2.2), hm2, r1, r2.beginT (ht.2.1 hlt), r3, r4⟩
      refine w_aload_n (q := 82) aX4_doesOthers_81 rfl rfl ?_
      refine w_aload_n (q := 83) aX4_doesOthers_82 rfl rfl ?_
      refine w_get (q := 86) aX4_doesOthers_83 f_4_35 (hm2 32 (by decide) (by decide)) rfl rfl ?_
      refine w_iload_n (q := 87) aX4_doesOthers_86 rfl rfl ?_
      refine w_iald (q := 88) aX4_doesOthers_87 (by decide) (hm2 41 (by decide) (by decide)) (mm_ix_at (n := k) rfl (by omega) (rg_at (by omega))) rfl ?_
      rw [g41]
      refine w_lload_n (q := 89) aX4_doesOthers_88 rfl rfl ?_
      refine w_callV aX4_doesOthers_89 t_4_157 (this_at rfl (hm2 32 (by decide) (by decide))) (rfl) (d_begins hone hR2) (fun r89 h89 hp => ?_)
      obtain ⟨rfl, hR3, hf3⟩ := hp
      refine w_goto (t := 280) aX4_doesOthers_92 (by decide) ?_
      refine w_vret aX4_doesOthers_280 rfl ?_
      exact ⟨rfl, hR3, (fr.rf.up (AM_l (by omega))).tr hf3⟩
  · rw [r_do_9]
    have ht := rTm_each hs hb (r2 k hk)
    have eB : sB (m_begin S k) k = sB S k + 1 := fu_s
    rw [eB]
    refine w_table (t := 95) (o := 73) aX4_doesOthers_22 (by skip; decide) (by skip; decide) (by skip; rfl) (by decide) ?_
    refine w_aload_n (q := 96) aX4_doesOthers_95 rfl rfl ?_
    refine w_get (q := 99) aX4_doesOthers_96 f_4_41 (hm 32 (by decide) (by decide)) rfl rfl ?_
    refine w_iload_n (q := 100) aX4_doesOthers_99 rfl rfl ?_
    refine w_dup2 (q := 101) aX4_doesOthers_100 ⟨rfl, rfl⟩ rfl ?_
    refine w_iald (q := 102) aX4_doesOthers_101 (by decide) (hm 43 (by decide) (by decide)) (mm_ix_at (n := k) rfl (by omega) (rg_at (by omega))) rfl ?_
    refine w_iconst (v := 1) (q := 103) aX4_doesOthers_102 rfl rfl ?_
    refine w_iadd (q := 104) aX4_doesOthers_103 rfl ?_
    refine w_iast (q := 105) (n := k) (vs' := _) aX4_doesOthers_104 (hm 43 (by decide) (by decide)) (rfl) (by rw [rg_len]; omega) (by rw [rg_len]; omega) (rg_set _ _ _ _) rfl ?_
    have e43 : fu (fun j => Value.int (w.2.1 j)) k (.int (w.2.1 k + 1)) = fun j => Value.int (fu w.2.1 k (w.2.1 k + 1) j) := fu_map Value.int _ _ _
    have hm2 : hM (m_begin S k) P.length (0, 0, -1, v) (w.1, fu w.2.1 k (w.2.1 k + 1), w.2.2) (mm_up h 43 (5, rg 40 (fu (fun j => Value.int (w.2.1 j)) k (.int (w.2.1 k + 1))))) := by
      intro q h1 h2
      rcases q23 q h1 h2 with rfl | rfl | rfl | rfl | rfl | rfl | rfl | rfl | rfl | rfl | rfl | rfl | rfl | rfl | rfl | rfl | rfl | rfl | rfl | rfl | rfl | rfl | rfl <;> first | exact hm _ h1 h2 | exact congrArg (fun z => some ((5 : Nat), rg 40 z)) e43 |  rfl
    have hf2 : fr AM h (mm_up h 43 (5, rg 40 (fu (fun j => Value.int (w.2.1 j)) k (.int (w.2.1 k + 1))))) := fr.rf.up (AM_l (by omega))
    generalize mm_up h 43 (5, rg 40 (fu (fun j => Value.int (w.2.1 j)) k (.int (w.2.1 k + 1)))) = h2 at hm2 hf2
    refine w_aload_n (q := 106) aX4_doesOthers_105 rfl rfl ?_
    refine w_get (q := 109) aX4_doesOthers_106 f_4_41 (hm2 32 (by decide) (by decide)) rfl rfl ?_
    refine w_iload_n (q := 110) aX4_doesOthers_109 rfl rfl ?_
    refine w_iald (q := 111) aX4_doesOthers_110 (by decide) (hm2 43 (by decide) (by decide)) (mm_ix_at (n := k) rfl (by omega) (rg_at (by omega))) rfl ?_
    rw [show ((w.1, fu w.2.1 k (w.2.1 k + 1), w.2.2) : Raw).2.1 k = w.2.1 k + 1 from fu_s]
    refine w_iload (q := 113) aX4_doesOthers_111 rfl rfl ?_
    refine w_ic_lt (t := 280) (q := 116) aX4_doesOthers_113 (by decide) rfl (fun c113 => ?_) (fun c113 => ?_)
    · rw [if_neg (fun z => ht.1.mpr z c113)]
      refine w_vret aX4_doesOthers_280 rfl ?_
      exact ⟨rfl, ⟨(w.1, fu w.2.1 k (w.2.1 k + 1), w.2.2), hm2, r1, r2.beginT (ht.2.1 c113), r3, r4⟩, hf2⟩
    · rw [if_pos (ht.1.mp c113)]
      refine w_aload_n (q := 117) aX4_doesOthers_116 rfl rfl ?_
      refine w_get (q := 120) aX4_doesOthers_117 f_4_41 (hm2 32 (by decide) (by decide)) rfl rfl ?_
      refine w_iload_n (q := 121) aX4_doesOthers_120 rfl rfl ?_
      refine w_iconst (v := 0) (q := 122) aX4_doesOthers_121 rfl rfl ?_
      refine w_iast (q := 123) (n := k) (vs' := _) aX4_doesOthers_122 (hm2 43 (by decide) (by decide)) (rfl) (by rw [rg_len]; omega) (by rw [rg_len]; omega) (rg_set _ _ _ _) rfl ?_
      have e43 : fu (fun j => Value.int (fu w.2.1 k (w.2.1 k + 1) j)) k (.int 0) = fun j => Value.int (fu w.2.1 k 0 j) := by
        rw [fu_map Value.int]
        funext j
        unfold fu
        split <;> rfl
      have hm3 : hM (m_begin S k) P.length (0, 0, -1, v) (w.1, fu w.2.1 k 0, w.2.2) (mm_up h2 43 (5, rg 40 (fu (fun j => Value.int (fu w.2.1 k (w.2.1 k + 1) j)) k (.int 0)))) := by
        intro q h1 h2
        rcases q23 q h1 h2 with rfl | rfl | rfl | rfl | rfl | rfl | rfl | rfl | rfl | rfl | rfl | rfl | rfl | rfl | rfl | rfl | rfl | rfl | rfl | rfl | rfl | rfl | rfl <;> first | exact hm2 _ h1 h2 | exact congrArg (fun z => some ((5 : Nat), rg 40 z)) e43 |  rfl
      have hR3 : RM (m_begin S k) P (0, 0, -1, v) (mm_up h2 43 (5, rg 40 (fu (fun j => Value.int (fu w.2.1 k (w.2.1 k + 1) j)) k (.int 0)))) := ⟨(w.1, fu w.2.1 k 0, w.2.2), hm3, r1, r2.beginT (ht.2.2 c113), r3, r4⟩
      refine w_aload_n (q := 124) aX4_doesOthers_123 rfl rfl ?_
      refine w_aload_n (q := 125) aX4_doesOthers_124 rfl rfl ?_
      refine w_get (q := 128) aX4_doesOthers_125 f_4_35 (hm3 32 (by decide) (by decide)) rfl rfl ?_
      refine w_iload_n (q := 129) aX4_doesOthers_128 rfl rfl ?_
      refine w_iald (q := 130) aX4_doesOthers_129 (by decide) (hm3 41 (by decide) (by decide)) (mm_ix_at (n := k) rfl (by omega) (rg_at (by omega))) rfl ?_
      rw [g41]
      refine w_lload_n (q := 131) aX4_doesOthers_130 rfl rfl ?_
      refine w_callV aX4_doesOthers_131 t_4_157 (this_at rfl (hm3 32 (by decide) (by decide))) (rfl) (d_begins hone hR3) (fun r131 h131 hp => ?_)
      obtain ⟨rfl, hR4, hf4⟩ := hp
      refine w_goto (t := 280) aX4_doesOthers_134 (by decide) ?_
      refine w_vret aX4_doesOthers_280 rfl ?_
      exact ⟨rfl, hR4, (hf2.up (AM_l (by omega))).tr hf4⟩
  · rw [r_do_10]
    have hR : RM (m_begin S k) P (0, 0, -1, v) h := ⟨w, hm, r1, r2.begin (by rw [hs]; decide) (by rw [hs]; decide), r3, r4⟩
    obtain ⟨t, ht, et⟩ := rN_of (by omega) (can_10.mpr hcan).2
    rw [et, nI_clamp (by omega)]
    refine w_table (t := 137) (o := 115) aX4_doesOthers_22 (by skip; decide) (by skip; decide) (by skip; rfl) (by decide) ?_
    refine w_aload_n (q := 138) aX4_doesOthers_137 rfl rfl ?_
    refine w_get (q := 141) aX4_doesOthers_138 f_4_7 (hm 32 (by decide) (by decide)) rfl rfl ?_
    refine w_iload (q := 143) aX4_doesOthers_141 rfl rfl ?_
    refine w_lald (q := 144) aX4_doesOthers_143 (hm 33 (by decide) (by decide)) (mm_ix_at (n := t) rfl (by omega) (rg_at ht)) rfl ?_
    refine w_lconst (v := 0) (q := 145) aX4_doesOthers_144 rfl rfl ?_
    refine w_lcmp (q := 146) aX4_doesOthers_145 rfl ?_
    refine w_if_le (t := 280) (q := 149) aX4_doesOthers_146 (by decide) rfl (fun c146 => ?_) (fun c146 => ?_)
    · rw [if_neg (fun z => Int32.not_le.mpr ((lg_cmp_gt _ _).mpr z) c146)]
      refine w_vret aX4_doesOthers_280 rfl ?_
      exact ⟨rfl, hR, fr.rf⟩
    · rw [if_pos ((lg_cmp_gt _ _).mp (Int32.not_le.mp c146))]
      refine w_aload_n (q := 150) aX4_doesOthers_149 rfl rfl ?_
      refine w_aload_n (q := 151) aX4_doesOthers_150 rfl rfl ?_
      refine w_get (q := 154) aX4_doesOthers_151 f_4_35 (hm 32 (by decide) (by decide)) rfl rfl ?_
      refine w_iload_n (q := 155) aX4_doesOthers_154 rfl rfl ?_
      refine w_iald (q := 156) aX4_doesOthers_155 (by decide) (hm 41 (by decide) (by decide)) (mm_ix_at (n := k) rfl (by omega) (rg_at (by omega))) rfl ?_
      rw [g41]
      refine w_lload_n (q := 157) aX4_doesOthers_156 rfl rfl ?_
      refine w_callV aX4_doesOthers_157 t_4_157 (this_at rfl (hm 32 (by decide) (by decide))) (rfl) (d_begins hone hR) (fun r157 h157 hp => ?_)
      obtain ⟨rfl, hR3, hf3⟩ := hp
      refine w_goto (t := 280) aX4_doesOthers_160 (by decide) ?_
      refine w_vret aX4_doesOthers_280 rfl ?_
      exact ⟨rfl, hR3, hf3⟩
  · rw [r_do_11]
    have r2' := r2.begin (k := k) (by rw [hs]; decide) (by rw [hs]; decide)
    refine w_table (t := 163) (o := 141) aX4_doesOthers_22 (by skip; decide) (by skip; decide) (by skip; rfl) (by decide) ?_
    refine w_aload_n (q := 164) aX4_doesOthers_163 rfl rfl ?_
    refine w_iconst (v := 2) (q := 165) aX4_doesOthers_164 rfl rfl ?_
    refine w_aload_n (q := 166) aX4_doesOthers_165 rfl rfl ?_
    refine w_get (q := 169) aX4_doesOthers_166 f_4_38 (hm 32 (by decide) (by decide)) rfl rfl ?_
    refine w_iload_n (q := 170) aX4_doesOthers_169 rfl rfl ?_
    refine w_iald (q := 171) aX4_doesOthers_170 (by decide) (hm 42 (by decide) (by decide)) (mm_ix_at (n := k) rfl (by omega) (rg_at (by omega))) rfl ?_
    rw [g42]
    refine w_lload_n (q := 172) aX4_doesOthers_171 rfl rfl ?_
    refine w_callV aX4_doesOthers_172 t_4_129 (this_at rfl (hm 32 (by decide) (by decide))) (rfl) (d_heap hn hm) (fun r172 h172 hp => ?_)
    obtain ⟨rfl, hm2, hf2⟩ := hp
    refine w_aload_n (q := 176) aX4_doesOthers_175 rfl rfl ?_
    refine w_aload_n (q := 177) aX4_doesOthers_176 rfl rfl ?_
    refine w_get (q := 180) aX4_doesOthers_177 f_4_35 (hm2 32 (by decide) (by decide)) rfl rfl ?_
    refine w_iload_n (q := 181) aX4_doesOthers_180 rfl rfl ?_
    refine w_iald (q := 182) aX4_doesOthers_181 (by decide) (hm2 41 (by decide) (by decide)) (mm_ix_at (n := k) rfl (by omega) (rg_at (by omega))) rfl ?_
    rw [g41]
    refine w_lload_n (q := 183) aX4_doesOthers_182 rfl rfl ?_
    refine w_callV aX4_doesOthers_183 t_4_157 (this_at rfl (hm2 32 (by decide) (by decide))) (rfl) (d_begins (S := m_begin S k) (u := v) (P := P ++ [(2, oI (sA S k).2.2.2.2.2, v, [], 0)]) hone ⟨hw w P.length 2 (oI (sA S k).2.2.2.2.2) v, by rw [List.length_append]; exact hm2, r1, r2', r3, r4.push (by decide)⟩) (fun r183 h183 hp => ?_)
    obtain ⟨rfl, hR3, hf3⟩ := hp
    refine w_goto (t := 280) aX4_doesOthers_186 (by decide) ?_
    refine w_vret aX4_doesOthers_280 rfl ?_
    exact ⟨rfl, hR3, hf2.tr hf3⟩
  · rw [r_do_12]
    have r2' := r2.begin (k := k) (by rw [hs]; decide) (by rw [hs]; decide)
    refine w_table (t := 189) (o := 167) aX4_doesOthers_22 (by skip; decide) (by skip; decide) (by skip; rfl) (by decide) ?_
    refine w_aload_n (q := 190) aX4_doesOthers_189 rfl rfl ?_
    refine w_iconst (v := 1) (q := 191) aX4_doesOthers_190 rfl rfl ?_
    refine w_iload (q := 193) aX4_doesOthers_191 rfl rfl ?_
    refine w_lload_n (q := 194) aX4_doesOthers_193 rfl rfl ?_
    refine w_callV aX4_doesOthers_194 t_4_129 (this_at rfl (hm 32 (by decide) (by decide))) (rfl) (d_heap hn hm) (fun r194 h194 hp => ?_)
    obtain ⟨rfl, hm2, hf2⟩ := hp
    refine w_aload_n (q := 198) aX4_doesOthers_197 rfl rfl ?_
    refine w_aload_n (q := 199) aX4_doesOthers_198 rfl rfl ?_
    refine w_get (q := 202) aX4_doesOthers_199 f_4_35 (hm2 32 (by decide) (by decide)) rfl rfl ?_
    refine w_iload_n (q := 203) aX4_doesOthers_202 rfl rfl ?_
    refine w_iald (q := 204) aX4_doesOthers_203 (by decide) (hm2 41 (by decide) (by decide)) (mm_ix_at (n := k) rfl (by omega) (rg_at (by omega))) rfl ?_
    rw [g41]
    refine w_lload_n (q := 205) aX4_doesOthers_204 rfl rfl ?_
    refine w_callV aX4_doesOthers_205 t_4_157 (this_at rfl (hm2 32 (by decide) (by decide))) (rfl) (d_begins (S := m_begin S k) (u := v) (P := P ++ [(1, (sA S k).2.2.1, v, [], 0)]) hone ⟨hw w P.length 1 (sA S k).2.2.1 v, by rw [List.length_append]; exact hm2, r1, r2', r3, r4.push (by decide)⟩) (fun r205 h205 hp => ?_)
    obtain ⟨rfl, hR3, hf3⟩ := hp
    refine w_goto (t := 280) aX4_doesOthers_208 (by decide) ?_
    refine w_vret aX4_doesOthers_280 rfl ?_
    exact ⟨rfl, hR3, hf2.tr hf3⟩
  · have hR : RM (m_begin S k) P (0, 0, -1, v) h := ⟨w, hm, r1, r2.begin (by rw [hs]; decide) (by rw [hs]; decide), r3, r4⟩
    refine w_table (t := 211) (o := 189) aX4_doesOthers_22 (by skip; decide) (by skip; decide) (by skip; rfl) (by decide) ?_
    refine w_iconst (v := 0) (q := 212) aX4_doesOthers_211 rfl rfl ?_
    refine w_istore (q := 214) (ls' := [(6, _), (5, _), (4, _), (0, _), (1, _), (2, _)]) aX4_doesOthers_212 (by decide) rfl rfl ?_
    have e : uL (m_begin S k) (cutL (sL (m_begin S k)) (sA S k).2.1 0) = m_begin S k := by
      have : cutL (sL (m_begin S k)) (sA S k).2.1 0 = sL (m_begin S k) := by
        funext j
        unfold cutL
        rw [if_neg (by omega)]
      rw [this]
      rfl
    exact l_cut (F := F) (S := m_begin S k) (h0 := h) 6 0 h rfl (by rw [e]; exact hR) fr.rf
  · have hR : RM (m_begin S k) P (0, 0, -1, v) h := ⟨w, hm, r1, r2.begin (by rw [hs]; decide) (by rw [hs]; decide), r3, r4⟩
    have e14 : r_do 14 (m_begin S k) k (sA S k) v P = ((m_al 14 (m_begin S k) (sA S k) v).2, P, Xe (m_al 14 (m_begin S k) (sA S k) v).1 v) := rfl
    rw [e14, m_al_14]
    obtain ⟨i, hi, ei⟩ := rN_of (by omega) (can_14.mpr hcan).2
    rw [ei, nI_clamp (by omega)]
    have hl12 : (sL (m_begin S k) i).length ≤ 12 := (r1 i hi).1
    refine w_tableD (t := 240) aX4_doesOthers_22 (by decide) (by decide) ?_
    refine w_aload_n (q := 241) aX4_doesOthers_240 rfl rfl ?_
    refine w_iload (q := 243) aX4_doesOthers_241 rfl rfl ?_
    refine w_iload (q := 245) aX4_doesOthers_243 rfl rfl ?_
    refine w_callV aX4_doesOthers_245 t_4_109 (this_at rfl (hm 32 (by decide) (by decide))) (rfl) (d_placeOf hi hm r1) (fun r245 h245 hp => ?_)
    obtain ⟨rfl, rfl⟩ := hp
    refine w_iconst (v := -1) (q := 249) aX4_doesOthers_248 rfl rfl ?_
    refine w_ic_ne (t := 280) (q := 252) aX4_doesOthers_249 (by decide) rfl (fun c249 => ?_) (fun c249 => ?_)
    · have hin : (sA S k).2.1 ∈ sL (m_begin S k) i := Classical.byContradiction fun z => c249 (pls_no z)
      rw [if_pos hin]
      refine w_vret aX4_doesOthers_280 rfl ?_
      exact ⟨rfl, hR, fr.rf⟩
    · have hin := (pls_m1 (by omega)).mp c249
      rw [if_neg hin]
      refine w_aload_n (q := 253) aX4_doesOthers_252 rfl rfl ?_
      refine w_get (q := 256) aX4_doesOthers_253 f_4_20 (hm 32 (by decide) (by decide)) rfl rfl ?_
      refine w_iload (q := 258) aX4_doesOthers_256 rfl rfl ?_
      refine w_iald (q := 259) aX4_doesOthers_258 (by decide) (hm 36 (by decide) (by decide)) (mm_ix_at (n := i) rfl (by omega) (rg_at (by omega))) rfl ?_
      refine w_bipush (v := 12) (q := 261) aX4_doesOthers_259 rfl rfl ?_
      refine w_ic_ne (t := 272) (q := 264) aX4_doesOthers_261 (by decide) rfl (fun c261 => ?_) (fun c261 => ?_)
      · have hne : ¬ (sL (m_begin S k) i).length = 12 := fun z => c261 (by rw [z]; rfl)
        rw [if_neg hne]
        refine w_aload_n (q := 273) aX4_doesOthers_272 rfl rfl ?_
        refine w_iload (q := 275) aX4_doesOthers_273 rfl rfl ?_
        refine w_iload (q := 277) aX4_doesOthers_275 rfl rfl ?_
        refine w_callV aX4_doesOthers_277 t_4_113 (this_at rfl (hm 32 (by decide) (by decide))) (rfl) (d_put hi (Nat.lt_of_le_of_ne hl12 hne) hin hR) (fun r277 h277 hp => ?_)
        obtain ⟨rfl, hR3, hf3⟩ := hp
        refine w_vret aX4_doesOthers_280 rfl ?_
        exact ⟨rfl, hR3, hf3⟩
      · have he : (sL (m_begin S k) i).length = 12 := (nI_iff (b := 12) (Nat.lt_of_le_of_lt hl12 (by omega)) (by omega)).mp c261
        rw [if_pos he]
        refine w_aload_n (q := 265) aX4_doesOthers_264 rfl rfl ?_
        refine w_iconst (v := 4) (q := 266) aX4_doesOthers_265 rfl rfl ?_
        refine w_put (q := 269) (fs' := [_, _, _, _, _, _, _, _, _, _, _, _, _, _, _, _, _, _, _, _, _, _, _, _, _, _, _, _, _, _, _]) aX4_doesOthers_266 f_4_126 (hm 32 (by decide) (by decide)) (Nat.le_of_ble_eq_true rfl) rfl rfl (Or.inl rfl) rfl rfl ?_
        refine w_goto (t := 280) aX4_doesOthers_269 (by decide) ?_
        refine w_vret aX4_doesOthers_280 rfl ?_
        refine ⟨rfl, ⟨w, ?_, r1, r2.begin (by rw [hs]; decide) (by rw [hs]; decide), r3, r4⟩, fr.rf.up (AM_l (by omega))⟩
        intro q h1 h2
        rcases q23 q h1 h2 with rfl | rfl | rfl | rfl | rfl | rfl | rfl | rfl | rfl | rfl | rfl | rfl | rfl | rfl | rfl | rfl | rfl | rfl | rfl | rfl | rfl | rfl | rfl <;> first | exact hm _ h1 h2 |  rfl
end
section
def r_does (S : St) (k : Nat) (v : Int64) (P : List Fr) : St × List Fr × Xs := if 200 ≤ sS S then (S, P, Xe 6 v) else r_do (sA S k).1.toNatClampNeg (m_begin S k) k (sA S k) v P
theorem Xe_0 (u : Int64) : Xe 0 u = (0, 0, -1, u) := rfl
theorem RM.upT {S : St} {P : List Fr} {X : Xs} {h : mm_H} {i : Nat} {t : Int64} (hR : RM S P X h) : RM (uT S (fu (sT S) i t)) P X (mm_up h 33 (6, rg 8 (fu (fun j => Value.long (sT S j)) i (.long t)))) := by
  obtain ⟨w, hm, r⟩ := hR
  refine ⟨w, hm.up (congrArg (fun z => ((6 : Nat), rg 8 z)) (fu_map Value.long _ _ _)) (fun q h1 h2 h3 => ?_), r⟩
  rcases q23 q h1 h2 with rfl | rfl | rfl | rfl | rfl | rfl | rfl | rfl | rfl | rfl | rfl | rfl | rfl | rfl | rfl | rfl | rfl | rfl | rfl | rfl | rfl | rfl | rfl <;> first | exact absurd rfl h3 | rfl
theorem rQu.put {S : St} {qb : Nat → Int32} {qv : Nat → Int64} {b : Int32} {v : Int64} (hl : (sQ S).length < 20) (h : rQu S qb qv) : rQu (uQ S (sQ S ++ [(b, v)])) (fu qb (sQ S).length b) (fu qv (sQ S).length v) := by
  refine ⟨by show (sQ S ++ [(b, v)]).length ≤ 20; simp; omega, fun i e he => ?_⟩
  have he2 : (sQ S ++ [(b, v)])[i]? = some e := he
  by_cases hi : i < (sQ S).length
  · rw [List.getElem?_append_left hi] at he2
    rw [fu_n (by omega), fu_n (by omega)]
    exact h.2 i e he2
  · have : i = (sQ S).length := by
      have := (List.getElem?_eq_some_iff.mp he2).1
      simp at this
      omega
    subst this
    simp at he2
    subst he2
    exact ⟨fu_s, fu_s⟩
set_option maxHeartbeats 1000000 in
theorem d_does {F : Nat} {h : mm_H} {S : St} {P : List Fr} {k : Nat} {v : Int64} (hk : k < sM S) (ho : Ok S) (hb : sB S k + 1 < 2 ^ 31) (hn : P.length < 600) (hR : RM S P (0, 0, nI k, v) h) : mW none (F + 3) mX4_does 0 [(0, .ref 32)] [] h (doP (r_does S k v P) h) := by
  have hM40 := ho.1
  have hA := ho.2.2.1 k hk
  have hcan := hA.1
  have hs200 := ho.2.2.2.2.2.2
  obtain ⟨s, hs15, hs⟩ := rN_sort hA
  rw [hs] at hcan
  obtain ⟨w, hm, r1, r2, r3, r4⟩ := hR
  unfold r_does
  refine w_aload_n (q := 1) aX4_does_0 rfl rfl ?_
  refine w_get (q := 4) aX4_does_1 f_4_133 (hm 32 (by decide) (by decide)) rfl rfl ?_
  refine w_istore_n (q := 5) (ls' := [(1, _), (0, _)]) aX4_does_4 (by decide) rfl rfl ?_
  refine w_aload_n (q := 6) aX4_does_5 rfl rfl ?_
  refine w_get (q := 9) aX4_does_6 f_4_136 (hm 32 (by decide) (by decide)) rfl rfl ?_
  refine w_lstore_n (q := 10) (ls' := [(2, _), (1, _), (0, _)]) aX4_does_9 (by decide) rfl rfl ?_
  refine w_aload_n (q := 11) aX4_does_10 rfl rfl ?_
  refine w_iconst (v := -1) (q := 12) aX4_does_11 rfl rfl ?_
  refine w_put (q := 15) (fs' := [_, _, _, _, _, _, _, _, _, _, _, _, _, _, _, _, _, _, _, _, _, _, _, _, _, _, _, _, _, _, _]) aX4_does_12 f_4_133 (hm 32 (by decide) (by decide)) (Nat.le_of_ble_eq_true rfl) rfl rfl (Or.inl rfl) rfl rfl ?_
  refine w_aload_n (q := 16) aX4_does_15 rfl rfl ?_
  refine w_get (q := 19) aX4_does_16 f_4_140 (up_s _ _ _) rfl rfl ?_
  refine w_sipush (v := 200) (q := 22) aX4_does_19 rfl rfl ?_
  refine w_ic_ne (t := 32) (q := 25) aX4_does_22 (by decide) rfl (fun c22 => ?_) (fun c22 => ?_)
  rotate_left
  · have h200 : sS S = 200 := (nI_iff (b := 200) (by omega) (by omega)).mp c22
    rw [if_pos (by omega)]
    refine w_aload_n (q := 26) aX4_does_25 rfl rfl ?_
    refine w_bipush (v := 6) (q := 28) aX4_does_26 rfl rfl ?_
    refine w_put (q := 31) (fs' := [_, _, _, _, _, _, _, _, _, _, _, _, _, _, _, _, _, _, _, _, _, _, _, _, _, _, _, _, _, _, _]) aX4_does_28 f_4_126 (up_s _ _ _) (Nat.le_of_ble_eq_true rfl) rfl rfl (Or.inl rfl) rfl rfl ?_
    refine w_vret aX4_does_31 rfl ?_
    refine ⟨rfl, ⟨w, ?_, r1, r2, r3, r4⟩, (fr.rf.up (AM_l (by omega))).up (AM_l (by omega))⟩
    intro q h1 h2
    rcases q23 q h1 h2 with rfl | rfl | rfl | rfl | rfl | rfl | rfl | rfl | rfl | rfl | rfl | rfl | rfl | rfl | rfl | rfl | rfl | rfl | rfl | rfl | rfl | rfl | rfl <;> first | exact hm _ h1 h2 |  rfl
  · have h200 : sS S < 200 := Nat.lt_of_le_of_ne hs200 (fun z => c22 (by show nI (sS S) = 200; rw [z]; rfl))
    rw [if_neg (by omega), hs, nI_clamp (by omega)]
    refine w_aload_n (q := 33) aX4_does_32 rfl rfl ?_
    refine w_dup (q := 34) aX4_does_33 rfl rfl ?_
    refine w_get (q := 37) aX4_does_34 f_4_140 (up_s _ _ _) rfl rfl ?_
    refine w_iconst (v := 1) (q := 38) aX4_does_37 rfl rfl ?_
    refine w_iadd (q := 39) aX4_does_38 rfl ?_
    refine w_put (q := 42) (fs' := [_, _, _, _, _, _, _, _, _, _, _, _, _, _, _, _, _, _, _, _, _, _, _, _, _, _, _, _, _, _, _]) aX4_does_39 f_4_140 (up_s _ _ _) (Nat.le_of_ble_eq_true rfl) rfl rfl (Or.inl rfl) rfl rfl ?_
    refine w_aload_n (q := 43) aX4_does_42 rfl rfl ?_
    refine w_get (q := 46) aX4_does_43 f_4_74 (up_s _ _ _) rfl rfl ?_
    refine w_iconst (v := 1) (q := 47) aX4_does_46 rfl rfl ?_
    refine w_dup2 (q := 48) aX4_does_47 ⟨rfl, rfl⟩ rfl ?_
    refine w_iald (q := 49) aX4_does_48 (by decide) ((up_n (by decide)).trans ((up_n (by decide)).trans (hm 54 (by decide) (by decide)))) (mm_ix_at (n := 1) rfl (by omega) (rg_at (by omega))) rfl ?_
    refine w_iconst (v := 1) (q := 50) aX4_does_49 rfl rfl ?_
    refine w_iadd (q := 51) aX4_does_50 rfl ?_
    refine w_iast (q := 52) (n := 1) (vs' := _) aX4_does_51 ((up_n (by decide)).trans ((up_n (by decide)).trans (hm 54 (by decide) (by decide)))) (rfl) (by rw [rg_len]; omega) (by rw [rg_len]; omega) (rg_set _ _ _ _) rfl ?_
    refine w_aload_n (q := 53) aX4_does_52 rfl rfl ?_
    refine w_get (q := 56) aX4_does_53 f_4_44 ((up_n (by decide)).trans (up_s _ _ _)) rfl rfl ?_
    refine w_iload_n (q := 57) aX4_does_56 rfl rfl ?_
    refine w_dup2 (q := 58) aX4_does_57 ⟨rfl, rfl⟩ rfl ?_
    refine w_iald (q := 59) aX4_does_58 (by decide) ((up_n (by decide)).trans ((up_n (by decide)).trans ((up_n (by decide)).trans (hm 44 (by decide) (by decide))))) (mm_ix_at (n := k) rfl (by omega) (rg_at (by omega))) rfl ?_
    refine w_iconst (v := 1) (q := 60) aX4_does_59 rfl rfl ?_
    refine w_iadd (q := 61) aX4_does_60 rfl ?_
    refine w_iast (q := 62) (n := k) (vs' := _) aX4_does_61 ((up_n (by decide)).trans ((up_n (by decide)).trans ((up_n (by decide)).trans (hm 44 (by decide) (by decide))))) (rfl) (by rw [rg_len]; omega) (by rw [rg_len]; omega) (rg_set _ _ _ _) rfl ?_
    rw [if_pos hk]
    have e44 : fu (fun j => Value.int (if j < sM S then nI (sB S j) else 0)) k (.int (nI (sB S k) + 1)) = fun j => Value.int (if j < sM S then nI (fu (sB S) k (sB S k + 1) j) else 0) := by
      rw [nI_1]
      exact fu_if (g := nI) (x := sB S k + 1) hk
    have e32 : moL (m_begin S k) P.length (0, 0, -1, v) = [.ref 33, .ref 34, .ref 35, .ref 36, .int (nI (sM S)), .ref 37, .ref 38, .ref 39, .ref 40, .ref 41, .ref 42, .ref 43, .ref 44, .ref 45, .ref 46, .ref 47, .int (nI (sQ S).length), .int (nI P.length), .ref 48, .ref 49, .ref 50, .ref 51, .ref 52, .ref 53, .int (nI (sD S)), .int (nI (sS S) + 1), .int 0, .int 0, .int (-1), .long v, .ref 54] := by rw [nI_1]; rfl
    have key : ∀ h2, Bg S k v P w h2 → fr AM h h2 → mW none (F + 3) mX4_does 62 [(2, .long v), (1, .int (nI k)), (0, .ref 32)] [] h2 (doP (r_do s (m_begin S k) k (sA S k) v P) h) := fun h2 B hf => by
      have hm := B.1
      have hr4 := B.2.2.2.2
      have g37 : (if k < sM (m_begin S k) then (sA (m_begin S k) k).1 else 0) = (sA S k).1 := if_pos hk
      have g38 : (if k < sM (m_begin S k) then (sA (m_begin S k) k).2.1 else 0) = (sA S k).2.1 := if_pos hk
      have g39 : (if k < sM (m_begin S k) then (sA (m_begin S k) k).2.2.1 else 0) = (sA S k).2.2.1 := if_pos hk
      have g40 : (if k < sM (m_begin S k) then (sA (m_begin S k) k).2.2.2.1 else 0) = (sA S k).2.2.2.1 := if_pos hk
      refine w_aload_n (q := 63) aX4_does_62 rfl rfl ?_
      refine w_get (q := 66) aX4_does_63 f_4_26 (hm 32 (by decide) (by decide)) rfl rfl ?_
      refine w_iload_n (q := 67) aX4_does_66 rfl rfl ?_
      refine w_iald (q := 68) aX4_does_67 (by decide) (hm 38 (by decide) (by decide)) (mm_ix_at (n := k) rfl (by omega) (rg_at (by omega))) rfl ?_
      rw [g38]
      refine w_istore (q := 70) (ls' := [(4, _), (2, _), (1, _), (0, _)]) aX4_does_68 (by decide) rfl rfl ?_
      refine w_aload_n (q := 71) aX4_does_70 rfl rfl ?_
      refine w_get (q := 74) aX4_does_71 f_4_29 (hm 32 (by decide) (by decide)) rfl rfl ?_
      refine w_iload_n (q := 75) aX4_does_74 rfl rfl ?_
      refine w_iald (q := 76) aX4_does_75 (by decide) (hm 39 (by decide) (by decide)) (mm_ix_at (n := k) rfl (by omega) (rg_at (by omega))) rfl ?_
      rw [g39]
      refine w_istore (q := 78) (ls' := [(5, _), (4, _), (2, _), (1, _), (0, _)]) aX4_does_76 (by decide) rfl rfl ?_
      refine w_aload_n (q := 79) aX4_does_78 rfl rfl ?_
      refine w_get (q := 82) aX4_does_79 f_4_23 (hm 32 (by decide) (by decide)) rfl rfl ?_
      refine w_iload_n (q := 83) aX4_does_82 rfl rfl ?_
      refine w_iald (q := 84) aX4_does_83 (by decide) (hm 37 (by decide) (by decide)) (mm_ix_at (n := k) rfl (by omega) (rg_at (by omega))) rfl ?_
      rw [g37, hs]
      by_cases h8 : 8 ≤ s
      · have hx : (nI s).toInt < 0 ∨ 7 < (nI s).toInt := Or.inr (by rw [nI_toInt (by omega)]; omega)
        refine w_tableD (t := 359) aX4_does_84 (hx) (by decide) ?_
        refine w_aload_n (q := 360) aX4_does_359 rfl rfl ?_
        refine w_iload_n (q := 361) aX4_does_360 rfl rfl ?_
        refine w_lload_n (q := 362) aX4_does_361 rfl rfl ?_
        refine w_callV aX4_does_362 t_4_154 (this_at rfl (hm 32 (by decide) (by decide))) (rfl) (d_doesOthers hk ho hs h8 hs15 hb hn B) (fun r362 h362 hp => ?_)
        obtain ⟨rfl, hR2, hf2⟩ := hp
        refine w_vret aX4_does_365 rfl ?_
        exact ⟨rfl, hR2, hf.tr hf2⟩
      · have n8 : ¬ (sA S k).1 = 8 := fun z => by
          rw [hs] at z
          have := (nI_iff (b := 8) (by omega) (by omega)).mp z
          omega
        have n9 : ¬ (sA S k).1 = 9 := fun z => by
          rw [hs] at z
          have := (nI_iff (b := 9) (by omega) (by omega)).mp z
          omega
        have hR := B.rm n8 n9
        have hcs : s = 0 ∨ s = 1 ∨ s = 2 ∨ s = 3 ∨ s = 4 ∨ s = 5 ∨ s = 6 ∨ s = 7 := by omega
        rcases hcs with rfl | rfl | rfl | rfl | rfl | rfl | rfl | rfl
        · have e : r_do 0 (m_begin S k) k (sA S k) v P = ((m_al 0 (m_begin S k) (sA S k) v).2, P, Xe (m_al 0 (m_begin S k) (sA S k) v).1 v) := rfl
          rw [e, m_al_0]
          obtain ⟨i, hi, ei⟩ := rN_of (by omega) (can_0.mpr hcan)
          rw [ei, nI_clamp (by omega)]
          refine w_table (t := 132) (o := 48) aX4_does_84 (by skip; decide) (by skip; decide) (by skip; rfl) (by decide) ?_
          refine w_aload_n (q := 133) aX4_does_132 rfl rfl ?_
          refine w_get (q := 136) aX4_does_133 f_4_7 (hm 32 (by decide) (by decide)) rfl rfl ?_
          refine w_iload (q := 138) aX4_does_136 rfl rfl ?_
          refine w_dup2 (q := 139) aX4_does_138 ⟨rfl, rfl⟩ rfl ?_
          refine w_lald (q := 140) aX4_does_139 (hm 33 (by decide) (by decide)) (mm_ix_at (n := i) rfl (by omega) (rg_at (by omega))) rfl ?_
          refine w_lload_n (q := 141) aX4_does_140 rfl rfl ?_
          refine w_iload (q := 143) aX4_does_141 rfl rfl ?_
          refine w_i2l (q := 144) aX4_does_143 rfl ?_
          refine w_ladd (q := 145) aX4_does_144 rfl ?_
          refine w_ladd (q := 146) aX4_does_145 rfl ?_
          refine w_last (q := 147) (n := i) (vs' := _) aX4_does_146 (hm 33 (by decide) (by decide)) (rfl) (by rw [rg_len]; omega) (by rw [rg_len]; omega) (rg_set _ _ _ _) rfl ?_
          refine w_goto (t := 365) aX4_does_147 (by decide) ?_
          refine w_vret aX4_does_365 rfl ?_
          exact ⟨rfl, hR.upT, hf.up (AM_l (by omega))⟩
        · have e : r_do 1 (m_begin S k) k (sA S k) v P = ((m_al 1 (m_begin S k) (sA S k) v).2, P, Xe (m_al 1 (m_begin S k) (sA S k) v).1 v) := rfl
          rw [e, m_al_1]
          obtain ⟨i, hi, ei⟩ := rN_of (by omega) (can_1.mpr hcan)
          rw [ei, nI_clamp (by omega)]
          refine w_table (t := 150) (o := 66) aX4_does_84 (by skip; decide) (by skip; decide) (by skip; rfl) (by decide) ?_
          refine w_aload_n (q := 151) aX4_does_150 rfl rfl ?_
          refine w_get (q := 154) aX4_does_151 f_4_7 (hm 32 (by decide) (by decide)) rfl rfl ?_
          refine w_iload (q := 156) aX4_does_154 rfl rfl ?_
          refine w_lload_n (q := 157) aX4_does_156 rfl rfl ?_
          refine w_aload_n (q := 158) aX4_does_157 rfl rfl ?_
          refine w_get (q := 161) aX4_does_158 f_4_7 (hm 32 (by decide) (by decide)) rfl rfl ?_
          refine w_iload (q := 163) aX4_does_161 rfl rfl ?_
          refine w_lald (q := 164) aX4_does_163 (hm 33 (by decide) (by decide)) (mm_ix_at (n := i) rfl (by omega) (rg_at (by omega))) rfl ?_
          refine w_lcmp (q := 165) aX4_does_164 rfl ?_
          refine w_if_le (t := 172) (q := 168) aX4_does_165 (by decide) rfl (fun c165 => ?_) (fun c165 => ?_)
          · have hle : v ≤ sT (m_begin S k) i := Int64.not_lt.mp (fun z => Int32.not_le.mpr ((lg_cmp_gt _ _).mpr z) c165)
            have hz : (if v < sT (m_begin S k) i then sT (m_begin S k) i else v) = sT (m_begin S k) i := by
              split
              · rfl
              · rename_i z
                exact Int64.le_antisymm hle (Int64.not_lt.mp z)
            rw [hz]
            refine w_aload_n (q := 173) aX4_does_172 rfl rfl ?_
            refine w_get (q := 176) aX4_does_173 f_4_7 (hm 32 (by decide) (by decide)) rfl rfl ?_
            refine w_iload (q := 178) aX4_does_176 rfl rfl ?_
            refine w_lald (q := 179) aX4_does_178 (hm 33 (by decide) (by decide)) (mm_ix_at (n := i) rfl (by omega) (rg_at (by omega))) rfl ?_
            refine w_last (q := 180) (n := i) (vs' := _) aX4_does_179 (hm 33 (by decide) (by decide)) (rfl) (by rw [rg_len]; omega) (by rw [rg_len]; omega) (rg_set _ _ _ _) rfl ?_
            refine w_goto (t := 365) aX4_does_180 (by decide) ?_
            refine w_vret aX4_does_365 rfl ?_
            exact ⟨rfl, hR.upT, hf.up (AM_l (by omega))⟩
          · have hgt : sT (m_begin S k) i < v := (lg_cmp_gt _ _).mp (Int32.not_le.mp c165)
            rw [if_neg (fun z => Int64.lt_asymm z hgt)]
            refine w_lload_n (q := 169) aX4_does_168 rfl rfl ?_
            refine w_goto (t := 179) aX4_does_169 (by decide) ?_
            refine w_last (q := 180) (n := i) (vs' := _) aX4_does_179 (hm 33 (by decide) (by decide)) (rfl) (by rw [rg_len]; omega) (by rw [rg_len]; omega) (rg_set _ _ _ _) rfl ?_
            refine w_goto (t := 365) aX4_does_180 (by decide) ?_
            refine w_vret aX4_does_365 rfl ?_
            exact ⟨rfl, hR.upT, hf.up (AM_l (by omega))⟩
        · have e : r_do 2 (m_begin S k) k (sA S k) v P = ((m_al 2 (m_begin S k) (sA S k) v).2, P, Xe (m_al 2 (m_begin S k) (sA S k) v).1 v) := rfl
          rw [e, m_al_2]
          obtain ⟨i, hi, ei⟩ := rN_of (by omega) (can_2'.mpr hcan)
          rw [ei, nI_clamp (by omega)]
          refine w_table (t := 183) (o := 99) aX4_does_84 (by skip; decide) (by skip; decide) (by skip; rfl) (by decide) ?_
          refine w_aload_n (q := 184) aX4_does_183 rfl rfl ?_
          refine w_get (q := 187) aX4_does_184 f_4_7 (hm 32 (by decide) (by decide)) rfl rfl ?_
          refine w_iload (q := 189) aX4_does_187 rfl rfl ?_
          refine w_aload_n (q := 190) aX4_does_189 rfl rfl ?_
          refine w_get (q := 193) aX4_does_190 f_4_32 (hm 32 (by decide) (by decide)) rfl rfl ?_
          refine w_iload_n (q := 194) aX4_does_193 rfl rfl ?_
          refine w_lald (q := 195) aX4_does_194 (hm 40 (by decide) (by decide)) (mm_ix_at (n := k) rfl (by omega) (rg_at (by omega))) rfl ?_
          rw [g40]
          refine w_iload (q := 197) aX4_does_195 rfl rfl ?_
          refine w_i2l (q := 198) aX4_does_197 rfl ?_
          refine w_ladd (q := 199) aX4_does_198 rfl ?_
          refine w_last (q := 200) (n := i) (vs' := _) aX4_does_199 (hm 33 (by decide) (by decide)) (rfl) (by rw [rg_len]; omega) (by rw [rg_len]; omega) (rg_set _ _ _ _) rfl ?_
          refine w_goto (t := 365) aX4_does_200 (by decide) ?_
          refine w_vret aX4_does_365 rfl ?_
          exact ⟨rfl, hR.upT, hf.up (AM_l (by omega))⟩
        · have e : r_do 3 (m_begin S k) k (sA S k) v P = ((m_al 3 (m_begin S k) (sA S k) v).2, P, Xe (m_al 3 (m_begin S k) (sA S k) v).1 v) := rfl
          rw [e, m_al_3]
          obtain ⟨i, hi, ei⟩ := rN_of (by omega) (can_3.mpr hcan)
          rw [ei, nI_clamp (by omega)]
          refine w_table (t := 203) (o := 119) aX4_does_84 (by skip; decide) (by skip; decide) (by skip; rfl) (by decide) ?_
          refine w_lload_n (q := 204) aX4_does_203 rfl rfl ?_
          refine w_lconst (v := 0) (q := 205) aX4_does_204 rfl rfl ?_
          refine w_lcmp (q := 206) aX4_does_205 rfl ?_
          refine w_if_ne (t := 217) (q := 209) aX4_does_206 (by decide) rfl (fun c206 => ?_) (fun c206 => ?_)
          · have hv : ¬ v = 0 := fun z => c206 ((lg_cmp_eq _ _).mpr z)
            rw [if_neg hv]
            refine w_aload_n (q := 218) aX4_does_217 rfl rfl ?_
            refine w_get (q := 221) aX4_does_218 f_4_7 (hm 32 (by decide) (by decide)) rfl rfl ?_
            refine w_iload (q := 223) aX4_does_221 rfl rfl ?_
            refine w_aload_n (q := 224) aX4_does_223 rfl rfl ?_
            refine w_get (q := 227) aX4_does_224 f_4_7 (hm 32 (by decide) (by decide)) rfl rfl ?_
            refine w_iload (q := 229) aX4_does_227 rfl rfl ?_
            refine w_lald (q := 230) aX4_does_229 (hm 33 (by decide) (by decide)) (mm_ix_at (n := i) rfl (by omega) (rg_at (by omega))) rfl ?_
            refine w_lload_n (q := 231) aX4_does_230 rfl rfl ?_
            refine w_ldiv (q := 232) aX4_does_231 (hv) rfl ?_
            refine w_last (q := 233) (n := i) (vs' := _) aX4_does_232 (hm 33 (by decide) (by decide)) (rfl) (by rw [rg_len]; omega) (by rw [rg_len]; omega) (rg_set _ _ _ _) rfl ?_
            refine w_goto (t := 365) aX4_does_233 (by decide) ?_
            refine w_vret aX4_does_365 rfl ?_
            exact ⟨rfl, hR.upT, hf.up (AM_l (by omega))⟩
          · rw [if_pos ((lg_cmp_eq _ _).mp c206)]
            refine w_aload_n (q := 210) aX4_does_209 rfl rfl ?_
            refine w_iconst (v := 1) (q := 211) aX4_does_210 rfl rfl ?_
            refine w_put (q := 214) (fs' := [_, _, _, _, _, _, _, _, _, _, _, _, _, _, _, _, _, _, _, _, _, _, _, _, _, _, _, _, _, _, _]) aX4_does_211 f_4_126 (hm 32 (by decide) (by decide)) (Nat.le_of_ble_eq_true rfl) rfl rfl (Or.inl rfl) rfl rfl ?_
            refine w_goto (t := 365) aX4_does_214 (by decide) ?_
            refine w_vret aX4_does_365 rfl ?_
            refine ⟨rfl, ⟨w, ?_, B.2.1, B.2.2.1.begin n8 n9, B.2.2.2⟩, hf.up (AM_l (by omega))⟩
            intro q h1 h2
            rcases q23 q h1 h2 with rfl | rfl | rfl | rfl | rfl | rfl | rfl | rfl | rfl | rfl | rfl | rfl | rfl | rfl | rfl | rfl | rfl | rfl | rfl | rfl | rfl | rfl | rfl <;> first | exact hm _ h1 h2 |  rfl
        · have e : r_do 4 (m_begin S k) k (sA S k) v P = ((m_al 4 (m_begin S k) (sA S k) v).2, P, Xe (m_al 4 (m_begin S k) (sA S k) v).1 v) := rfl
          rw [e, m_al_4]
          refine w_table (t := 236) (o := 152) aX4_does_84 (by skip; decide) (by skip; decide) (by skip; rfl) (by decide) ?_
          refine w_lload_n (q := 237) aX4_does_236 rfl rfl ?_
          refine w_lconst (v := 0) (q := 238) aX4_does_237 rfl rfl ?_
          refine w_ldc (q := 241) aX4_does_238 l_4_91 rfl ?_
          refine w_callS aX4_does_241 x_4_85 t_4_85 (rfl) (d_in) (fun r241 h241 hp => ?_)
          obtain ⟨rfl, rfl⟩ := hp
          have e8 : (¬ v < 0 ∧ v ≤ 7) ↔ rL v := ⟨fun z => ⟨z.1, Int64.lt_iff_toInt_lt.mpr (by have := Int64.le_iff_toInt_le.mp z.2; show v.toInt < 8; have e7 : (7 : Int64).toInt = 7 := rfl; omega)⟩, fun z => ⟨z.1, Int64.le_iff_toInt_le.mpr (by have := Int64.lt_iff_toInt_lt.mp z.2; show v.toInt ≤ 7; have e8 : (8 : Int64).toInt = 8 := rfl; omega)⟩⟩
          refine w_if_eq (t := 263) (q := 247) aX4_does_244 (by decide) rfl (fun c244 => ?_) (fun c244 => ?_)
          · rw [if_neg (fun z => bz_eq0 c244 (e8.mpr z))]
            refine w_aload_n (q := 264) aX4_does_263 rfl rfl ?_
            refine w_iconst (v := 2) (q := 265) aX4_does_264 rfl rfl ?_
            refine w_put (q := 268) (fs' := [_, _, _, _, _, _, _, _, _, _, _, _, _, _, _, _, _, _, _, _, _, _, _, _, _, _, _, _, _, _, _]) aX4_does_265 f_4_126 (hm 32 (by decide) (by decide)) (Nat.le_of_ble_eq_true rfl) rfl rfl (Or.inl rfl) rfl rfl ?_
            refine w_goto (t := 365) aX4_does_268 (by decide) ?_
            refine w_vret aX4_does_365 rfl ?_
            refine ⟨rfl, ⟨w, ?_, B.2.1, B.2.2.1.begin n8 n9, B.2.2.2⟩, hf.up (AM_l (by omega))⟩
            intro q h1 h2
            rcases q23 q h1 h2 with rfl | rfl | rfl | rfl | rfl | rfl | rfl | rfl | rfl | rfl | rfl | rfl | rfl | rfl | rfl | rfl | rfl | rfl | rfl | rfl | rfl | rfl | rfl <;> first | exact hm _ h1 h2 |  rfl
          · have hv := e8.mp (bz_ne0 c244)
            rw [if_pos hv]
            obtain ⟨i, hi, ei⟩ := rL_i hv
            refine w_aload_n (q := 248) aX4_does_247 rfl rfl ?_
            refine w_get (q := 251) aX4_does_248 f_4_7 (hm 32 (by decide) (by decide)) rfl rfl ?_
            refine w_lload_n (q := 252) aX4_does_251 rfl rfl ?_
            refine w_l2i (q := 253) aX4_does_252 rfl ?_
            rw [ei, nI_clamp (by omega)]
            refine w_dup2 (q := 254) aX4_does_253 ⟨rfl, rfl⟩ rfl ?_
            refine w_lald (q := 255) aX4_does_254 (hm 33 (by decide) (by decide)) (mm_ix_at (n := i) rfl (by omega) (rg_at (by omega))) rfl ?_
            refine w_iload (q := 257) aX4_does_255 rfl rfl ?_
            refine w_i2l (q := 258) aX4_does_257 rfl ?_
            refine w_ladd (q := 259) aX4_does_258 rfl ?_
            refine w_last (q := 260) (n := i) (vs' := _) aX4_does_259 (hm 33 (by decide) (by decide)) (rfl) (by rw [rg_len]; omega) (by rw [rg_len]; omega) (rg_set _ _ _ _) rfl ?_
            refine w_goto (t := 365) aX4_does_260 (by decide) ?_
            refine w_vret aX4_does_365 rfl ?_
            exact ⟨rfl, hR.upT, hf.up (AM_l (by omega))⟩
        · rw [r_do_5]
          obtain ⟨i, hi, ei⟩ := rN_of (by omega) (can_5.mpr hcan)
          rw [ei, nI_clamp (by omega)]
          refine w_table (t := 271) (o := 187) aX4_does_84 (by skip; decide) (by skip; decide) (by skip; rfl) (by decide) ?_
          refine w_aload_n (q := 272) aX4_does_271 rfl rfl ?_
          refine w_iload (q := 274) aX4_does_272 rfl rfl ?_
          refine w_lload_n (q := 275) aX4_does_274 rfl rfl ?_
          refine w_iload (q := 277) aX4_does_275 rfl rfl ?_
          refine w_i2l (q := 278) aX4_does_277 rfl ?_
          refine w_ladd (q := 279) aX4_does_278 rfl ?_
          refine w_callV aX4_does_279 t_4_143 (this_at rfl (hm 32 (by decide) (by decide))) (rfl) (d_rings (S := m_begin S k) hn hi ho.2.2.2.2.2.1 hR) (fun r279 h279 hp => ?_)
          obtain ⟨rfl, hR2, hf2⟩ := hp
          refine w_goto (t := 365) aX4_does_282 (by decide) ?_
          refine w_vret aX4_does_365 rfl ?_
          exact ⟨rfl, hR2, hf.tr hf2⟩
        · have e : r_do 6 (m_begin S k) k (sA S k) v P = ((m_al 6 (m_begin S k) (sA S k) v).2, P, Xe (m_al 6 (m_begin S k) (sA S k) v).1 v) := rfl
          rw [e, m_al_6]
          have hq20 : (sQ (m_begin S k)).length ≤ 20 := B.2.2.2.1.1
          refine w_table (t := 285) (o := 201) aX4_does_84 (by skip; decide) (by skip; decide) (by skip; rfl) (by decide) ?_
          refine w_aload_n (q := 286) aX4_does_285 rfl rfl ?_
          refine w_get (q := 289) aX4_does_286 f_4_147 (hm 32 (by decide) (by decide)) rfl rfl ?_
          refine w_bipush (v := 20) (q := 291) aX4_does_289 rfl rfl ?_
          refine w_ic_ne (t := 302) (q := 294) aX4_does_291 (by decide) rfl (fun c291 => ?_) (fun c291 => ?_)
          · have hne : ¬ (sQ (m_begin S k)).length = 20 := fun z => c291 (by rw [z]; rfl)
            have hlt : (sQ (m_begin S k)).length < 20 := Nat.lt_of_le_of_ne hq20 hne
            rw [if_neg hne]
            refine w_aload_n (q := 303) aX4_does_302 rfl rfl ?_
            refine w_get (q := 306) aX4_does_303 f_4_50 (hm 32 (by decide) (by decide)) rfl rfl ?_
            refine w_aload_n (q := 307) aX4_does_306 rfl rfl ?_
            refine w_get (q := 310) aX4_does_307 f_4_147 (hm 32 (by decide) (by decide)) rfl rfl ?_
            refine w_iload (q := 312) aX4_does_310 rfl rfl ?_
            refine w_iast (q := 313) (n := (sQ (m_begin S k)).length) (vs' := _) aX4_does_312 (hm 46 (by decide) (by decide)) (rfl) (by rw [rg_len]; omega) (by rw [rg_len]; omega) (rg_set _ _ _ _) rfl ?_
            refine w_aload_n (q := 314) aX4_does_313 rfl rfl ?_
            refine w_get (q := 317) aX4_does_314 f_4_53 ((up_n (by decide)).trans (hm 32 (by decide) (by decide))) rfl rfl ?_
            refine w_aload_n (q := 318) aX4_does_317 rfl rfl ?_
            refine w_get (q := 321) aX4_does_318 f_4_147 ((up_n (by decide)).trans (hm 32 (by decide) (by decide))) rfl rfl ?_
            refine w_lload_n (q := 322) aX4_does_321 rfl rfl ?_
            refine w_iload (q := 324) aX4_does_322 rfl rfl ?_
            refine w_i2l (q := 325) aX4_does_324 rfl ?_
            refine w_ladd (q := 326) aX4_does_325 rfl ?_
            refine w_last (q := 327) (n := (sQ (m_begin S k)).length) (vs' := _) aX4_does_326 ((up_n (by decide)).trans (hm 47 (by decide) (by decide))) (rfl) (by rw [rg_len]; omega) (by rw [rg_len]; omega) (rg_set _ _ _ _) rfl ?_
            refine w_aload_n (q := 328) aX4_does_327 rfl rfl ?_
            refine w_dup (q := 329) aX4_does_328 rfl rfl ?_
            refine w_get (q := 332) aX4_does_329 f_4_147 ((up_n (by decide)).trans ((up_n (by decide)).trans (hm 32 (by decide) (by decide)))) rfl rfl ?_
            refine w_iconst (v := 1) (q := 333) aX4_does_332 rfl rfl ?_
            refine w_iadd (q := 334) aX4_does_333 rfl ?_
            refine w_put (q := 337) (fs' := [_, _, _, _, _, _, _, _, _, _, _, _, _, _, _, _, _, _, _, _, _, _, _, _, _, _, _, _, _, _, _]) aX4_does_334 f_4_147 ((up_n (by decide)).trans ((up_n (by decide)).trans (hm 32 (by decide) (by decide)))) (Nat.le_of_ble_eq_true rfl) rfl rfl (Or.inl rfl) rfl rfl ?_
            refine w_goto (t := 365) aX4_does_337 (by decide) ?_
            refine w_vret aX4_does_365 rfl ?_
            have e46 : fu (fun j => Value.int (w.2.2.1 j)) (sQ (m_begin S k)).length (.int (sA S k).2.1) = fun j => Value.int (fu w.2.2.1 (sQ (m_begin S k)).length (sA S k).2.1 j) := fu_map Value.int _ _ _
            have e47 : fu (fun j => Value.long (w.2.2.2.1 j)) (sQ (m_begin S k)).length (.long (v + (sA S k).2.2.1.toInt64)) = fun j => Value.long (fu w.2.2.2.1 (sQ (m_begin S k)).length (v + (sA S k).2.2.1.toInt64) j) := fu_map Value.long _ _ _
            have e32 : moL (uQ (m_begin S k) (sQ (m_begin S k) ++ [((sA S k).2.1, v + (sA S k).2.2.1.toInt64)])) P.length (0, 0, -1, v) = [.ref 33, .ref 34, .ref 35, .ref 36, .int (nI (sM S)), .ref 37, .ref 38, .ref 39, .ref 40, .ref 41, .ref 42, .ref 43, .ref 44, .ref 45, .ref 46, .ref 47, .int (nI (sQ S).length + 1), .int (nI P.length), .ref 48, .ref 49, .ref 50, .ref 51, .ref 52, .ref 53, .int (nI (sD S)), .int (nI (sS (m_begin S k))), .int 0, .int 0, .int (-1), .long v, .ref 54] := by
              rw [nI_1]
              unfold moL
              rw [show (sQ (uQ (m_begin S k) (sQ (m_begin S k) ++ [((sA S k).2.1, v + (sA S k).2.2.1.toInt64)]))).length = (sQ S).length + 1 from List.length_append]
              rfl
            refine ⟨rfl, ⟨(w.1, w.2.1, fu w.2.2.1 (sQ (m_begin S k)).length (sA S k).2.1, fu w.2.2.2.1 (sQ (m_begin S k)).length (v + (sA S k).2.2.1.toInt64), w.2.2.2.2), ?_, B.2.1, B.2.2.1.begin n8 n9, rQu.put (S := m_begin S k) hlt B.2.2.2.1, hr4⟩, ((hf.up (AM_l (by omega))).up (AM_l (by omega))).up (AM_l (by omega))⟩
            intro q h1 h2
            rcases q23 q h1 h2 with rfl | rfl | rfl | rfl | rfl | rfl | rfl | rfl | rfl | rfl | rfl | rfl | rfl | rfl | rfl | rfl | rfl | rfl | rfl | rfl | rfl | rfl | rfl <;> first | exact hm _ h1 h2 | exact congrArg (fun z => some ((4 : Nat), z)) e32.symm | exact congrArg (fun z => some ((5 : Nat), rg 20 z)) e46 | exact congrArg (fun z => some ((6 : Nat), rg 20 z)) e47 |  rfl
          · have he : (sQ (m_begin S k)).length = 20 := (nI_iff (b := 20) (by omega) (by omega)).mp c291
            rw [if_pos he]
            refine w_aload_n (q := 295) aX4_does_294 rfl rfl ?_
            refine w_iconst (v := 4) (q := 296) aX4_does_295 rfl rfl ?_
            refine w_put (q := 299) (fs' := [_, _, _, _, _, _, _, _, _, _, _, _, _, _, _, _, _, _, _, _, _, _, _, _, _, _, _, _, _, _, _]) aX4_does_296 f_4_126 (hm 32 (by decide) (by decide)) (Nat.le_of_ble_eq_true rfl) rfl rfl (Or.inl rfl) rfl rfl ?_
            refine w_goto (t := 365) aX4_does_299 (by decide) ?_
            refine w_vret aX4_does_365 rfl ?_
            refine ⟨rfl, ⟨w, ?_, B.2.1, B.2.2.1.begin n8 n9, B.2.2.2⟩, hf.up (AM_l (by omega))⟩
            intro q h1 h2
            rcases q23 q h1 h2 with rfl | rfl | rfl | rfl | rfl | rfl | rfl | rfl | rfl | rfl | rfl | rfl | rfl | rfl | rfl | rfl | rfl | rfl | rfl | rfl | rfl | rfl | rfl <;> first | exact hm _ h1 h2 |  rfl
        · have e : r_do 7 (m_begin S k) k (sA S k) v P = ((m_al 7 (m_begin S k) (sA S k) v).2, P, Xe (m_al 7 (m_begin S k) (sA S k) v).1 v) := rfl
          rw [e, m_al_7]
          refine w_table (t := 340) (o := 256) aX4_does_84 (by skip; decide) (by skip; decide) (by skip; rfl) (by decide) ?_
          refine w_aload_n (q := 341) aX4_does_340 rfl rfl ?_
          refine w_get (q := 344) aX4_does_341 f_4_74 (hm 32 (by decide) (by decide)) rfl rfl ?_
          refine w_bipush (v := 6) (q := 346) aX4_does_344 rfl rfl ?_
          refine w_dup2 (q := 347) aX4_does_346 ⟨rfl, rfl⟩ rfl ?_
          refine w_iald (q := 348) aX4_does_347 (by decide) (hm 54 (by decide) (by decide)) (mm_ix_at (n := 6) rfl (by omega) (rg_at (by omega))) rfl ?_
          refine w_iconst (v := 1) (q := 349) aX4_does_348 rfl rfl ?_
          refine w_iadd (q := 350) aX4_does_349 rfl ?_
          refine w_iast (q := 351) (n := 6) (vs' := _) aX4_does_350 (hm 54 (by decide) (by decide)) (rfl) (by rw [rg_len]; omega) (by rw [rg_len]; omega) (rg_set _ _ _ _) rfl ?_
          refine w_aload_n (q := 352) aX4_does_351 rfl rfl ?_
          refine w_iconst (v := 1) (q := 353) aX4_does_352 rfl rfl ?_
          refine w_put (q := 356) (fs' := [_, _, _, _, _, _, _, _, _, _, _, _, _, _, _, _, _, _, _, _, _, _, _, _, _, _, _, _, _, _, _]) aX4_does_353 f_4_150 ((up_n (by decide)).trans (hm 32 (by decide) (by decide))) (Nat.le_of_ble_eq_true rfl) rfl rfl (Or.inl rfl) rfl rfl ?_
          refine w_goto (t := 365) aX4_does_356 (by decide) ?_
          refine w_vret aX4_does_365 rfl ?_
          refine ⟨rfl, ⟨w, ?_, B.2.1, B.2.2.1.begin n8 n9, B.2.2.2⟩, (hf.up (AM_l (by omega))).up (AM_l (by omega))⟩
          intro q h1 h2
          rcases q23 q h1 h2 with rfl | rfl | rfl | rfl | rfl | rfl | rfl | rfl | rfl | rfl | rfl | rfl | rfl | rfl | rfl | rfl | rfl | rfl | rfl | rfl | rfl | rfl | rfl <;> first | exact hm _ h1 h2 | exact congrArg (fun z => some ((5 : Nat), rg 10 z)) (f54 (by decide)) |  rfl
    refine key _ ⟨?_, r1, r2, r3, r4⟩ ((((fr.rf.up (AM_l (by omega))).up (AM_l (by omega))).up (AM_l (by omega))).up (AM_l (by omega)))
    intro q h1 h2
    rcases q23 q h1 h2 with rfl | rfl | rfl | rfl | rfl | rfl | rfl | rfl | rfl | rfl | rfl | rfl | rfl | rfl | rfl | rfl | rfl | rfl | rfl | rfl | rfl | rfl | rfl <;> first | exact hm _ h1 h2 | exact congrArg (fun z => some ((4 : Nat), z)) e32.symm | exact congrArg (fun z => some ((5 : Nat), rg 10 z)) (f54 (by decide)) | exact congrArg (fun z => some ((5 : Nat), rg 40 z)) e44 |  rfl
end
section
/-- the ends that there are -/
def er (e : Int32) : Prop := e = 0 ∨ e = 1 ∨ e = 2 ∨ e = 3 ∨ e = 4 ∨ e = 5 ∨ e = 6 ∨ e = 7
/-- what is begun and what is laid aside grows no faster than the steps -/
def Gw (S S' : St) : Prop := (∀ j, sB S' j + sS S ≤ sB S j + sS S') ∧ (sQ S').length + sS S ≤ (sQ S).length + sS S'
theorem Gw.rf (S : St) : Gw S S := ⟨fun _ => Nat.le_refl _, Nat.le_refl _⟩
theorem Gw.tr {S S1 S2 : St} (h : Gw S S1) (g : Gw S1 S2) : Gw S S2 := ⟨fun j => by have := h.1 j; have := g.1 j; omega, by have := h.2; have := g.2; omega⟩
theorem Gw.same {S S' : St} (h1 : sB S' = sB S) (h2 : sQ S' = sQ S) (h3 : sS S' = sS S) : Gw S S' := ⟨fun j => by rw [h1, h3]; exact Nat.le_refl _, by rw [h2, h3]; exact Nat.le_refl _⟩
theorem Gw.begin (S : St) (k : Nat) : Gw S (m_begin S k) := by
  refine ⟨fun j => ?_, ?_⟩
  · show fu (sB S) k (sB S k + 1) j + sS S ≤ sB S j + (sS S + 1)
    unfold fu
    split
    · rename_i e
      subst e
      omega
    · omega
  · show (sQ S).length + sS S ≤ (sQ S).length + (sS S + 1)
    omega
theorem Gw.bell (S : St) (k : Nat) (e : Int32) : Gw S (m_bell S k e).2 := by
  unfold m_bell
  split
  · exact Gw.same rfl rfl rfl
  · exact Gw.rf S
theorem Gw.try (S : St) (k : Nat) (e : Int32) : Gw S (m_try S k e).2 := by
  unfold m_try
  split
  · exact Gw.same rfl rfl rfl
  · exact Gw.rf S
theorem er.bell {S : St} {k : Nat} {e : Int32} (h : er e) : er (m_bell S k e).1 := by
  unfold m_bell
  split
  · exact Or.inl rfl
  · exact h
theorem er.try {S : St} {k : Nat} {e : Int32} (h : er e) : er (m_try S k e).1 := by
  unfold m_try
  split
  · exact Or.inl rfl
  · exact h
theorem er.well {e : Int32} (h : er e) : er (m_well e) ∧ ¬ m_well e = 7 := by
  rcases h with rfl | rfl | rfl | rfl | rfl | rfl | rfl | rfl <;> exact ⟨by unfold er; decide, by decide⟩
theorem er_0 : er 0 := Or.inl rfl
theorem er_6 : er 6 := by unfold er; decide
theorem er_3 : er 3 := by unfold er; decide
theorem er_lit {e : Int32} (h : e = 0 ∨ e = 1 ∨ e = 2 ∨ e = 4 ∨ e = 7) : er e := by
  unfold er
  rcases h with h | h | h | h | h <;> simp [h]
theorem er.al (s : Nat) (S : St) (A : Act9) (v : Int64) : er (m_al s S A v).1 := by
  apply er_lit
  unfold m_al
  split
  · exact Or.inl rfl
  · exact Or.inl rfl
  · exact Or.inl rfl
  · split
    · exact Or.inr (Or.inl rfl)
    · exact Or.inl rfl
  · split
    · exact Or.inl rfl
    · exact Or.inr (Or.inr (Or.inl rfl))
  · split
    · exact Or.inr (Or.inr (Or.inr (Or.inl rfl)))
    · exact Or.inl rfl
  · exact Or.inr (Or.inr (Or.inr (Or.inr rfl)))
  · exact Or.inl rfl
  · split
    · exact Or.inl rfl
    · split
      · exact Or.inr (Or.inr (Or.inr (Or.inl rfl)))
      · exact Or.inl rfl
  · exact Or.inl rfl
theorem Gw.al (s : Nat) (S : St) (k : Nat) (A : Act9) (v : Int64) : Gw S (m_al s (m_begin S k) A v).2 := by
  have h0 : ∀ S', sB S' = sB (m_begin S k) → sQ S' = sQ (m_begin S k) → sS S' = sS (m_begin S k) → Gw S S' := fun S' h1 h2 h3 => (Gw.begin S k).tr (Gw.same h1 h2 h3)
  unfold m_al
  split
  · exact h0 _ rfl rfl rfl
  · exact h0 _ rfl rfl rfl
  · exact h0 _ rfl rfl rfl
  · split
    · exact h0 _ rfl rfl rfl
    · exact h0 _ rfl rfl rfl
  · split
    · exact h0 _ rfl rfl rfl
    · exact h0 _ rfl rfl rfl
  · split
    · exact h0 _ rfl rfl rfl
    · refine ⟨(Gw.begin S k).1, ?_⟩
      show (sQ S ++ [(A.2.1, v + A.2.2.1.toInt64)]).length + sS S ≤ (sQ S).length + (sS S + 1)
      rw [List.length_append]
      show (sQ S).length + 1 + sS S ≤ (sQ S).length + (sS S + 1)
      omega
  · exact h0 _ rfl rfl rfl
  · exact h0 _ rfl rfl rfl
  · split
    · exact h0 _ rfl rfl rfl
    · split
      · exact h0 _ rfl rfl rfl
      · exact h0 _ rfl rfl rfl
  · exact h0 _ rfl rfl rfl
def PfW (pf : Pf) : Prop := ∀ S o v, er (pf S o v).1 ∧ Gw S (pf S o v).2
theorem PfW.loop {pf : Pf} (hp : PfW pf) {k : Nat} {v : Int64} : ∀ (xs : List Int32) (S : St), er (m_loop pf k v xs S).1 ∧ Gw S (m_loop pf k v xs S).2 := by
  intro xs
  induction xs with
  | nil => intro S; exact ⟨er_0, Gw.rf S⟩
  | cons x xs ih =>
    intro S
    unfold m_loop
    split
    · have g1 := hp S (sH S x.toNatClampNeg) v
      have g2 := g1.2.tr (Gw.bell (pf S (sH S x.toNatClampNeg) v).2 k (pf S (sH S x.toNatClampNeg) v).1)
      split
      · exact ⟨(ih _).1, g2.tr (ih _).2⟩
      · exact ⟨er.bell g1.1, g2⟩
    · exact ih S
theorem PfW.ring {pf : Pf} (hp : PfW pf) (S : St) (k : Nat) (v : Int64) : er (m_ring pf S k v).1 ∧ ¬ (m_ring pf S k v).1 = 7 ∧ Gw S (m_ring pf S k v).2 := by
  unfold m_ring
  split
  · exact ⟨by unfold er; simp, by simp, Gw.rf S⟩
  · have g := hp.loop (k := k) (v := v) (sL S k) (uC (uD S (sD S + 1)) (inc (sC S) 2))
    exact ⟨(er.well g.1).1, (er.well g.1).2, g.2.1, g.2.2⟩
theorem PfW.perf : ∀ n, PfW (m_perf n) := by
  intro n
  induction n with
  | zero => intro S o v; exact ⟨er_6, Gw.rf S⟩
  | succ n ih =>
    intro S o v
    cases o with
    | none => exact ⟨er_3, Gw.rf S⟩
    | some k =>
      unfold m_perf
      split
      · exact ⟨er_6, Gw.rf S⟩
      · have g0 := Gw.begin S k
        generalize (sA S k).1.toNatClampNeg = s
        unfold m_pf
        split
        · exact ⟨(ih.ring _ _ _).1, g0.tr (ih.ring _ _ _).2.2⟩
        · split
          · exact ⟨(ih _ _ _).1, g0.tr (ih _ _ _).2⟩
          · exact ⟨er_0, g0⟩
        · (repeat' split) <;> first | exact ⟨(ih _ _ _).1, g0.tr (ih _ _ _).2⟩ | exact ⟨er_0, g0⟩
        · split
          · exact ⟨(ih _ _ _).1, g0.tr (ih _ _ _).2⟩
          · exact ⟨er_0, g0⟩
        · split
          · exact ⟨(ih _ _ _).1, (g0.tr (ih _ _ _).2).tr (ih _ _ _).2⟩
          · exact ⟨(ih _ _ _).1, g0.tr (ih _ _ _).2⟩
        · exact ⟨er.try (ih _ _ _).1, (g0.tr (ih _ _ _).2).tr (Gw.try _ _ _)⟩
        · exact ⟨er.al _ _ _ _, Gw.al _ S k _ _⟩
/-- what holds while the reference works: the pile with its top first; no act has been begun more than N times -/
def Iv (N : Nat) (S : St) (Q : List Fr) : Prop := Ok S ∧ (∀ f ∈ Q, okF (sM S) f) ∧ nR Q = sD S ∧ Q.length ≤ sS S + 1 ∧ (∀ k, k < 6 → sW S k = 0 ∨ sW S k = 1) ∧ (∀ k, sB S k + 200 ≤ N + sS S) ∧ N + 1 < 2 ^ 31
theorem Iv.go {N : Nat} {S S' : St} {Q : List Fr} (h : Iv N S Q) (g : Go S S') (w : Gw S S') : Iv N S' Q := by
  obtain ⟨h1, h2, h3, h4, h5, h6, h7⟩ := h
  obtain ⟨g1, g2, g3⟩ := g
  obtain ⟨s1, s2, s3, s4, s5⟩ := g2
  refine ⟨g1 h1, ?_, ?_, by omega, ?_, fun k => ?_, h7⟩
  · rw [s1]; exact h2
  · rw [s5]; exact h3
  · rw [s4]; exact h5
  · have := h6 k
    have := w.1 k
    omega
theorem Iv.perf {N n : Nat} {S : St} {Q : List Fr} {o : Option Nat} {v : Int64} (h : Iv N S Q) (ho : ∀ k, o = some k → k < sM S) : Iv N (m_perf n S o v).2 Q := h.go (PfOk.perf n S o v h.1 ho) (PfW.perf n S o v).2
theorem Iv.begin {N : Nat} {S : St} {Q : List Fr} {k : Nat} (h : Iv N S Q) (h2 : ¬ 200 ≤ sS S) : Iv N (m_begin S k) Q ∧ Q.length + 1 ≤ sS (m_begin S k) + 1 := by
  refine ⟨h.go (Go.begin h2) (Gw.begin S k), ?_⟩
  have := h.2.2.2.1
  show Q.length + 1 ≤ sS S + 1 + 1
  omega
/-- a frame that does not ring is laid on -/
theorem Iv.push {N : Nat} {S : St} {Q : List Fr} {f : Fr} (h : Iv N S Q) (hl : Q.length + 1 ≤ sS S + 1) (hf : okF (sM S) f) (h0 : ¬ f.1 = 0) : Iv N S (f :: Q) := by
  obtain ⟨h1, h2, h3, h4, h5⟩ := h
  refine ⟨h1, fun g hg => ?_, ?_, hl, h5⟩
  · rcases List.mem_cons.mp hg with rfl | hg
    · exact hf
    · exact h2 g hg
  · unfold nR
    rw [if_neg h0]
    exact h3
theorem Iv.pop {N : Nat} {S : St} {Q : List Fr} {f : Fr} (h : Iv N S (f :: Q)) (h0 : ¬ f.1 = 0) : Iv N S Q := by
  obtain ⟨h1, h2, h3, h4, h5⟩ := h
  refine ⟨h1, fun g hg => h2 g (List.mem_cons_of_mem _ hg), ?_, ?_, h5⟩
  · unfold nR at h3
    rw [if_neg h0] at h3
    exact h3
  · have : (f :: Q).length = Q.length + 1 := rfl
    omega
/-- a ringing is laid on -/
theorem Iv.ring {N : Nat} {S : St} {Q : List Fr} {f : Fr} {c : Nat → Int32} (h : Iv N S Q) (hl : Q.length ≤ sS S) (hf : okF (sM S) f) (h0 : f.1 = 0) (hd : ¬ 8 ≤ sD S) : Iv N (uC (uD S (sD S + 1)) c) (f :: Q) := by
  obtain ⟨h1, h2, h3, h4, h5⟩ := h
  refine ⟨⟨h1.1, h1.2.1, h1.2.2.1, h1.2.2.2.1, h1.2.2.2.2.1, by show sD S + 1 ≤ 8; omega, h1.2.2.2.2.2.2⟩, fun g hg => ?_, ?_, ?_, h5⟩
  · rcases List.mem_cons.mp hg with rfl | hg
    · exact hf
    · exact h2 g hg
  · unfold nR
    rw [if_pos h0]
    show nR Q + 1 = sD S + 1
    rw [h3]
  · show Q.length + 1 ≤ sS S + 1
    omega
theorem Iv.out {N : Nat} {S : St} {Q : List Fr} {f : Fr} (h : Iv N S (f :: Q)) (h0 : f.1 = 0) : 1 ≤ sD S ∧ Iv N (uD S (sD S - 1)) Q := by
  obtain ⟨h1, h2, h3, h4, h5⟩ := h
  unfold nR at h3
  rw [if_pos h0] at h3
  refine ⟨by omega, ⟨h1.1, h1.2.1, h1.2.2.1, h1.2.2.2.1, h1.2.2.2.2.1, by have := h1.2.2.2.2.2.1; show sD S - 1 ≤ 8; omega, h1.2.2.2.2.2.2⟩, fun g hg => h2 g (List.mem_cons_of_mem _ hg), ?_, ?_, h5⟩
  · show nR Q = sD S - 1
    omega
  · have : (f :: Q).length = Q.length + 1 := rfl
    show Q.length ≤ sS S + 1
    omega
end
section
/-- from this the loop of works comes to the end Po -/
def WkP (F : Nat) (h0 : mm_H) (Po : Option Value → mm_H → Prop) (S : St) (P : List Fr) (X : Xs) : Prop := ∀ h, RM S P X h → fr AM h0 h → mW none (F + 4) mX4_works 2 [(1, .int 1), (0, .ref 32)] [] h Po
/-- with this end at this pile it comes to the end Po -/
def Zk (F : Nat) (h0 : mm_H) (Po : Option Value → mm_H → Prop) (S : St) (Q : List Fr) (e : Int32) : Prop :=
  if e = 0 then ∀ u, WkP F h0 Po S Q.reverse (0, 0, -1, u)
  else if e = 7 then ∀ u, WkP F h0 Po (r_stop Q S).1 (r_stop Q S).2.reverse (0, 0, -1, u)
  else if (r_fails Q S e).1 = 0 then ∀ u, WkP F h0 Po (r_fails Q S e).2.1 (r_fails Q S e).2.2.reverse (0, 0, -1, u)
  else ∀ u h, RM (r_fails Q S e).2.1 (r_fails Q S e).2.2.reverse ((r_fails Q S e).1, 0, -1, u) h → fr AM h0 h → Po none h
theorem x_works {F : Nat} {h : mm_H} {Po : Option Value → mm_H → Prop} (k : Po none h) : mW none F mX4_works 2 [(1, .int 0), (0, .ref 32)] [] h Po := by
  refine w_iload_n (q := 3) aX4_works_2 rfl rfl ?_
  refine w_if_eq (t := 98) (q := 6) aX4_works_3 (by decide) rfl (fun c3 => ?_) (fun c3 => ?_)
  · refine w_vret aX4_works_98 rfl ?_
    exact k
  · exact absurd rfl c3
theorem k_end {F N : Nat} {h0 : mm_H} {Po : Option Value → mm_H → Prop} {S : St} {Q : List Fr} {e : Int32} (he : er e) (hI : Iv N S Q) (hZ : Zk F h0 Po S Q e) (u : Int64) : WkP F h0 Po S Q.reverse (Xe e u) := by
  by_cases e0 : e = 0
  · subst e0
    unfold Zk at hZ
    rw [if_pos rfl] at hZ
    exact hZ u
  have hl : Q.length ≤ 600 := by
    have := hI.2.2.2.1
    have := hI.1.2.2.2.2.2.2
    omega
  by_cases e7 : e = 7
  · subst e7
    unfold Zk at hZ
    rw [if_neg e0, if_pos rfl] at hZ
    intro h hR hf
    have hR0 : RM S Q.reverse (0, 1, -1, u) h := hR
    obtain ⟨w, hm, hr⟩ := hR0
    refine w_iload_n (q := 3) aX4_works_2 rfl rfl ?_
    refine w_if_eq (t := 98) (q := 6) aX4_works_3 (by decide) rfl (fun c3 => ?_) (fun c3 => ?_)
    · exact absurd c3 (by decide)
    · refine w_aload_n (q := 7) aX4_works_6 rfl rfl ?_
      refine w_get (q := 10) aX4_works_7 f_4_126 (hm 32 (by decide) (by decide)) rfl rfl ?_
      refine w_if_eq (t := 50) (q := 13) aX4_works_10 (by decide) rfl (fun c10 => ?_) (fun c10 => ?_)
      · refine w_aload_n (q := 51) aX4_works_50 rfl rfl ?_
        refine w_get (q := 54) aX4_works_51 f_4_150 (hm 32 (by decide) (by decide)) rfl rfl ?_
        refine w_if_eq (t := 64) (q := 57) aX4_works_54 (by decide) rfl (fun c54 => ?_) (fun c54 => ?_)
        · exact absurd (show (1 : Int32) = 0 from c54) (by decide)
        · refine w_aload_n (q := 58) aX4_works_57 rfl rfl ?_
          refine w_callV aX4_works_58 t_4_163 (this_at rfl (hm 32 (by decide) (by decide))) (rfl) (d_stop hl (Nat.le_of_eq hI.2.2.1) ⟨w, hm, hr⟩) (fun r58 h58 hp => ?_)
          obtain ⟨rfl, hR2, hf2⟩ := hp
          refine w_goto (t := 2) aX4_works_61 (by decide) ?_
          exact hZ u _ hR2 (hf.tr hf2)
      · exact absurd rfl c10
  have he6 : e = 1 ∨ e = 2 ∨ e = 3 ∨ e = 4 ∨ e = 5 ∨ e = 6 := by
    rcases he with h | h | h | h | h | h | h | h
    · exact absurd h e0
    · exact Or.inl h
    · exact Or.inr (Or.inl h)
    · exact Or.inr (Or.inr (Or.inl h))
    · exact Or.inr (Or.inr (Or.inr (Or.inl h)))
    · exact Or.inr (Or.inr (Or.inr (Or.inr (Or.inl h))))
    · exact Or.inr (Or.inr (Or.inr (Or.inr (Or.inr h))))
    · exact absurd h e7
  unfold Zk at hZ
  rw [if_neg e0, if_neg e7] at hZ
  intro h hR hf
  have hR0 : RM S Q.reverse (e, 0, -1, u) h := by
    unfold Xe at hR
    rw [if_neg e7] at hR
    exact hR
  obtain ⟨w, hm, hr⟩ := hR0
  have t26 : ∀ y : Int32, (Q ≠ [] → ¬ y = 0) → mW none (F + 4) mX4_works 26 [(2, .int y), (1, .int 1), (0, .ref 32)] [] h Po := fun y hy => by
    refine w_aload_n (q := 27) aX4_works_26 rfl rfl ?_
    refine w_callV aX4_works_27 t_4_160 (this_at rfl (hm 32 (by decide) (by decide))) (rfl) (d_fails he6 hl hI.2.1 (Nat.le_of_eq hI.2.2.1) ⟨w, hm, hr⟩) (fun r27 h27 hp => ?_)
    obtain ⟨rfl, hR2, hf2⟩ := hp
    obtain ⟨w2, hm2, hr2⟩ := hR2
    refine w_aload_n (q := 31) aX4_works_30 rfl rfl ?_
    refine w_get (q := 34) aX4_works_31 f_4_126 (hm2 32 (by decide) (by decide)) rfl rfl ?_
    refine w_if_ne (t := 45) (q := 37) aX4_works_34 (by decide) rfl (fun c34 => ?_) (fun c34 => ?_)
    · rw [if_neg c34] at hZ
      refine w_iconst (v := 0) (q := 46) aX4_works_45 rfl rfl ?_
      refine w_istore_n (q := 47) (ls' := [(1, _), (2, _), (0, _)]) aX4_works_46 (by decide) rfl rfl ?_
      refine w_goto (t := 2) aX4_works_47 (by decide) ?_
      exact (x_works (hZ u h27 ⟨w2, hm2, hr2⟩ (hf.tr hf2))).ls (Rl.cons (Rl.cons Rl.nil rfl) rfl)
    · have c : (r_fails Q S e).1 = 0 := c34
      rw [if_pos c] at hZ
      have hQ : Q ≠ [] := fun z => e0 (by rw [z] at c; exact c)
      refine w_iload_n (q := 38) aX4_works_37 rfl rfl ?_
      refine w_if_eq (t := 45) (q := 41) aX4_works_38 (by decide) rfl (fun c38 => ?_) (fun c38 => ?_)
      · exact absurd c38 (hy hQ)
      · skip
        refine w_iconst (v := 1) (q := 42) aX4_works_41 rfl rfl ?_
        refine w_goto (t := 46) aX4_works_42 (by decide) ?_
        refine w_istore_n (q := 47) (ls' := [(1, _), (2, _), (0, _)]) aX4_works_46 (by decide) rfl rfl ?_
        refine w_goto (t := 2) aX4_works_47 (by decide) ?_
        refine (hZ u h27 ?_ (hf.tr hf2)).ls (Rl.cons (Rl.cons Rl.nil rfl) rfl)
        rw [c] at hm2
        exact ⟨w2, hm2, hr2⟩
  refine w_iload_n (q := 3) aX4_works_2 rfl rfl ?_
  refine w_if_eq (t := 98) (q := 6) aX4_works_3 (by decide) rfl (fun c3 => ?_) (fun c3 => ?_)
  · exact absurd c3 (by decide)
  · refine w_aload_n (q := 7) aX4_works_6 rfl rfl ?_
    refine w_get (q := 10) aX4_works_7 f_4_126 (hm 32 (by decide) (by decide)) rfl rfl ?_
    refine w_if_eq (t := 50) (q := 13) aX4_works_10 (by decide) rfl (fun c10 => ?_) (fun c10 => ?_)
    · exact absurd c10 e0
    · refine w_aload_n (q := 14) aX4_works_13 rfl rfl ?_
      refine w_get (q := 17) aX4_works_14 f_4_120 (hm 32 (by decide) (by decide)) rfl rfl ?_
      refine w_if_le (t := 24) (q := 20) aX4_works_17 (by decide) rfl (fun c17 => ?_) (fun c17 => ?_)
      · have hz : Q = [] := by
          have : Q.reverse.length ≤ 0 := (nI_leI (b := 0) (by rw [List.length_reverse]; omega) (by omega)).mp c17
          rw [List.length_reverse] at this
          exact List.length_eq_zero_iff.mp (by omega)
        refine w_iconst (v := 0) (q := 25) aX4_works_24 rfl rfl ?_
        refine w_istore_n (q := 26) (ls' := [(2, _), (1, _), (0, _)]) aX4_works_25 (by decide) rfl rfl ?_
        exact t26 0 (fun z => absurd hz z)
      · skip
        refine w_iconst (v := 1) (q := 21) aX4_works_20 rfl rfl ?_
        refine w_goto (t := 25) aX4_works_21 (by decide) ?_
        refine w_istore_n (q := 26) (ls' := [(2, _), (1, _), (0, _)]) aX4_works_25 (by decide) rfl rfl ?_
        exact t26 1 (fun _ => by decide)
theorem k_does {F N : Nat} {h0 : mm_H} {Po : Option Value → mm_H → Prop} {S : St} {Q : List Fr} {k : Nat} {v : Int64} (hI : Iv N S Q) (hk : k < sM S) (hW : WkP F h0 Po (r_does S k v Q.reverse).1 (r_does S k v Q.reverse).2.1 (r_does S k v Q.reverse).2.2 ∨ 200 ≤ sS S ∧ Zk F h0 Po S Q 6) : WkP F h0 Po S Q.reverse (0, 0, nI k, v) := by
  intro h hR hf
  have hl : Q.reverse.length < 600 := by
    have := hI.2.2.2.1
    have := hI.1.2.2.2.2.2.2
    rw [List.length_reverse]
    omega
  have hW2 : WkP F h0 Po (r_does S k v Q.reverse).1 (r_does S k v Q.reverse).2.1 (r_does S k v Q.reverse).2.2 := by
    rcases hW with h | ⟨h1, h2⟩
    · exact h
    · unfold r_does
      rw [if_pos h1]
      exact k_end er_6 hI h2 v
  have hb : sB S k + 1 < 2 ^ 31 := by
    have := hI.2.2.2.2.2.1 k
    have := hI.2.2.2.2.2.2
    have := hI.1.2.2.2.2.2.2
    omega
  have hkM := hI.1.1
  obtain ⟨w, hm, hr⟩ := hR
  refine w_iload_n (q := 3) aX4_works_2 rfl rfl ?_
  refine w_if_eq (t := 98) (q := 6) aX4_works_3 (by decide) rfl (fun c3 => ?_) (fun c3 => ?_)
  · exact absurd c3 (by decide)
  · refine w_aload_n (q := 7) aX4_works_6 rfl rfl ?_
    refine w_get (q := 10) aX4_works_7 f_4_126 (hm 32 (by decide) (by decide)) rfl rfl ?_
    refine w_if_eq (t := 50) (q := 13) aX4_works_10 (by decide) rfl (fun c10 => ?_) (fun c10 => ?_)
    · refine w_aload_n (q := 51) aX4_works_50 rfl rfl ?_
      refine w_get (q := 54) aX4_works_51 f_4_150 (hm 32 (by decide) (by decide)) rfl rfl ?_
      refine w_if_eq (t := 64) (q := 57) aX4_works_54 (by decide) rfl (fun c54 => ?_) (fun c54 => ?_)
      · refine w_aload_n (q := 65) aX4_works_64 rfl rfl ?_
        refine w_get (q := 68) aX4_works_65 f_4_133 (hm 32 (by decide) (by decide)) rfl rfl ?_
        refine w_iconst (v := -1) (q := 69) aX4_works_68 rfl rfl ?_
        refine w_ic_eq (t := 79) (q := 72) aX4_works_69 (by decide) rfl (fun c69 => ?_) (fun c69 => ?_)
        · have hx : nI k = -1 := c69
          have := nI_pos (n := k) (by omega)
          rw [hx] at this
          exact absurd (by decide) this
        · refine w_aload_n (q := 73) aX4_works_72 rfl rfl ?_
          refine w_callV aX4_works_73 t_4_166 (this_at rfl (hm 32 (by decide) (by decide))) (rfl) (d_does hk hI.1 hb hl ⟨w, hm, hr⟩) (fun r73 h73 hp => ?_)
          obtain ⟨rfl, hR2, hf2⟩ := hp
          refine w_goto (t := 2) aX4_works_76 (by decide) ?_
          exact hW2 _ hR2 (hf.tr hf2)
      · exact absurd rfl c54
    · exact absurd rfl c10
/-- the reference goes on from the pile's top -/
theorem k_go {F : Nat} {h0 : mm_H} {Po : Option Value → mm_H → Prop} {S : St} {P : List Fr} {u : Int64} (hl : 0 < P.length) (hl2 : P.length ≤ 600) (hg : ∀ h, RM S P (0, 0, -1, u) h → mW none (F + 3) mX4_goesOn 0 [(0, .ref 32)] [] h (fun r h' => r = none ∧ (fr AM h0 h' → mW none (F + 4) mX4_works 2 [(1, .int 1), (0, .ref 32)] [] h' Po) ∧ fr AM h h')) : WkP F h0 Po S P (0, 0, -1, u) := by
  intro h hR hf
  have hR0 := hR
  obtain ⟨w, hm, hr⟩ := hR
  refine w_iload_n (q := 3) aX4_works_2 rfl rfl ?_
  refine w_if_eq (t := 98) (q := 6) aX4_works_3 (by decide) rfl (fun c3 => ?_) (fun c3 => ?_)
  · exact absurd c3 (by decide)
  · refine w_aload_n (q := 7) aX4_works_6 rfl rfl ?_
    refine w_get (q := 10) aX4_works_7 f_4_126 (hm 32 (by decide) (by decide)) rfl rfl ?_
    refine w_if_eq (t := 50) (q := 13) aX4_works_10 (by decide) rfl (fun c10 => ?_) (fun c10 => ?_)
    · refine w_aload_n (q := 51) aX4_works_50 rfl rfl ?_
      refine w_get (q := 54) aX4_works_51 f_4_150 (hm 32 (by decide) (by decide)) rfl rfl ?_
      refine w_if_eq (t := 64) (q := 57) aX4_works_54 (by decide) rfl (fun c54 => ?_) (fun c54 => ?_)
      · refine w_aload_n (q := 65) aX4_works_64 rfl rfl ?_
        refine w_get (q := 68) aX4_works_65 f_4_133 (hm 32 (by decide) (by decide)) rfl rfl ?_
        refine w_iconst (v := -1) (q := 69) aX4_works_68 rfl rfl ?_
        refine w_ic_eq (t := 79) (q := 72) aX4_works_69 (by decide) rfl (fun c69 => ?_) (fun c69 => ?_)
        · refine w_aload_n (q := 80) aX4_works_79 rfl rfl ?_
          refine w_get (q := 83) aX4_works_80 f_4_120 (hm 32 (by decide) (by decide)) rfl rfl ?_
          refine w_if_le (t := 93) (q := 86) aX4_works_83 (by decide) rfl (fun c83 => ?_) (fun c83 => ?_)
          · exact absurd ((nI_leI (b := 0) (by omega) (by omega)).mp c83) (by omega)
          · refine w_aload_n (q := 87) aX4_works_86 rfl rfl ?_
            refine w_callV aX4_works_87 t_4_169 (this_at rfl (hm 32 (by decide) (by decide))) (rfl) (hg h hR0) (fun r87 h87 hp => ?_)
            obtain ⟨rfl, hW, hf2⟩ := hp
            refine w_goto (t := 2) aX4_works_90 (by decide) ?_
            exact hW (hf.tr hf2)
        · exact absurd rfl c69
      · exact absurd rfl c54
    · exact absurd rfl c10
theorem k_rest {F : Nat} {h0 : mm_H} {Po : Option Value → mm_H → Prop} {S : St} {u : Int64} (k : ∀ h, RM S [] (0, 0, -1, u) h → fr AM h0 h → Po none h) : WkP F h0 Po S [] (0, 0, -1, u) := by
  intro h hR hf
  have hR0 := hR
  obtain ⟨w, hm, hr⟩ := hR
  refine w_iload_n (q := 3) aX4_works_2 rfl rfl ?_
  refine w_if_eq (t := 98) (q := 6) aX4_works_3 (by decide) rfl (fun c3 => ?_) (fun c3 => ?_)
  · exact absurd c3 (by decide)
  · refine w_aload_n (q := 7) aX4_works_6 rfl rfl ?_
    refine w_get (q := 10) aX4_works_7 f_4_126 (hm 32 (by decide) (by decide)) rfl rfl ?_
    refine w_if_eq (t := 50) (q := 13) aX4_works_10 (by decide) rfl (fun c10 => ?_) (fun c10 => ?_)
    · refine w_aload_n (q := 51) aX4_works_50 rfl rfl ?_
      refine w_get (q := 54) aX4_works_51 f_4_150 (hm 32 (by decide) (by decide)) rfl rfl ?_
      refine w_if_eq (t := 64) (q := 57) aX4_works_54 (by decide) rfl (fun c54 => ?_) (fun c54 => ?_)
      · refine w_aload_n (q := 65) aX4_works_64 rfl rfl ?_
        refine w_get (q := 68) aX4_works_65 f_4_133 (hm 32 (by decide) (by decide)) rfl rfl ?_
        refine w_iconst (v := -1) (q := 69) aX4_works_68 rfl rfl ?_
        refine w_ic_eq (t := 79) (q := 72) aX4_works_69 (by decide) rfl (fun c69 => ?_) (fun c69 => ?_)
        · refine w_aload_n (q := 80) aX4_works_79 rfl rfl ?_
          refine w_get (q := 83) aX4_works_80 f_4_120 (hm 32 (by decide) (by decide)) rfl rfl ?_
          refine w_if_le (t := 93) (q := 86) aX4_works_83 (by decide) rfl (fun c83 => ?_) (fun c83 => ?_)
          · refine w_iconst (v := 0) (q := 94) aX4_works_93 rfl rfl ?_
            refine w_istore_n (q := 95) (ls' := [(1, _), (0, _)]) aX4_works_94 (by decide) rfl rfl ?_
            refine w_goto (t := 2) aX4_works_95 (by decide) ?_
            exact x_works (k h hR0 hf)
          · exact absurd (by decide) c83
        · exact absurd rfl c69
      · exact absurd rfl c54
    · exact absurd rfl c10
end
section
theorem Zk.z0 {F : Nat} {h0 : mm_H} {Po : Option Value → mm_H → Prop} {S : St} {Q : List Fr} (h : ∀ u, WkP F h0 Po S Q.reverse (0, 0, -1, u)) : Zk F h0 Po S Q 0 := by
  unfold Zk
  rw [if_pos rfl]
  exact h
theorem Zk.o0 {F : Nat} {h0 : mm_H} {Po : Option Value → mm_H → Prop} {S : St} {Q : List Fr} (h : Zk F h0 Po S Q 0) (u : Int64) : WkP F h0 Po S Q.reverse (0, 0, -1, u) := by
  unfold Zk at h
  rw [if_pos rfl] at h
  exact h u
theorem Zk.eqF {F : Nat} {h0 : mm_H} {Po : Option Value → mm_H → Prop} {S S' : St} {Q Q' : List Fr} {e : Int32} (e0 : ¬ e = 0) (e7 : ¬ e = 7) (er : r_fails Q' S' e = r_fails Q S e) (h : Zk F h0 Po S Q e) : Zk F h0 Po S' Q' e := by
  unfold Zk at h ⊢
  rw [if_neg e0, if_neg e7] at h ⊢
  rw [er]
  exact h
theorem Zk.met {F : Nat} {h0 : mm_H} {Po : Option Value → mm_H → Prop} {S S1 : St} {Q Q1 : List Fr} {e : Int32} (e0 : ¬ e = 0) (e7 : ¬ e = 7) (er : r_fails Q S e = (0, S1, Q1)) (h : Zk F h0 Po S1 Q1 0) : Zk F h0 Po S Q e := by
  unfold Zk at h ⊢
  rw [if_pos rfl] at h
  rw [if_neg e0, if_neg e7, er, if_pos rfl]
  exact h
theorem Zk.stop {F : Nat} {h0 : mm_H} {Po : Option Value → mm_H → Prop} {S S1 : St} {Q Q1 : List Fr} (er : r_stop Q S = (S1, Q1)) (h : Zk F h0 Po S1 Q1 0) : Zk F h0 Po S Q 7 := by
  unfold Zk at h ⊢
  rw [if_pos rfl] at h
  rw [if_neg (by decide), if_pos rfl, er]
  exact h
theorem Zk.stopE {F : Nat} {h0 : mm_H} {Po : Option Value → mm_H → Prop} {S S' : St} {Q Q' : List Fr} (er : r_stop Q' S' = r_stop Q S) (h : Zk F h0 Po S Q 7) : Zk F h0 Po S' Q' 7 := by
  unfold Zk at h ⊢
  rw [if_neg (by decide), if_pos rfl] at h ⊢
  rw [er]
  exact h
theorem Iv.nx {N : Nat} {S : St} {Q : List Fr} {s i : Int32} {v : Int64} {l : List Int32} {n n' : Nat} (h : Iv N S ((s, i, v, l, n) :: Q)) : Iv N S ((s, i, v, l, n') :: Q) := by
  obtain ⟨h1, h2, h3, h4, h5⟩ := h
  refine ⟨h1, fun g hg => ?_, h3, h4, h5⟩
  rcases List.mem_cons.mp hg with rfl | hg
  · exact h2 (s, i, v, l, n) List.mem_cons_self
  · exact h2 g (List.mem_cons_of_mem _ hg)
theorem Iv.len {N : Nat} {S : St} {Q : List Fr} (h : Iv N S Q) : Q.length ≤ 201 := by
  have := h.2.2.2.1
  have := h.1.2.2.2.2.2.2
  omega
def PfK (F N : Nat) (h0 : mm_H) (Po : Option Value → mm_H → Prop) (n : Nat) : Prop := ∀ (S : St) (Q : List Fr) (o : Option Nat) (v u : Int64), Iv N S Q → (∀ k, o = some k → k < sM S) → 201 ≤ n + sS S → Zk F h0 Po (m_perf n S o v).2 Q (m_perf n S o v).1 → WkP F h0 Po S Q.reverse (Xb o v u)
theorem m_bell_0 (S : St) (k : Nat) : m_bell S k 0 = (0, S) := if_neg (fun z => absurd z.2 (by decide))
theorem m_bell_7 (S : St) (k : Nat) : m_bell S k 7 = (7, S) := if_neg (fun z => absurd z.2 (by decide))
theorem k_loop {F N n : Nat} {h0 : mm_H} {Po : Option Value → mm_H → Prop} (ih : PfK F N h0 Po n) {k : Nat} {v : Int64} (hk : k < 6) : ∀ (xs pre : List Int32) (S : St) (Q : List Fr) (u : Int64), Iv N S ((0, nI k, v, pre ++ xs, pre.length) :: Q) → 201 ≤ n + sS S → Zk F h0 Po (uD (m_loop (m_perf n) k v xs S).2 (sD (m_loop (m_perf n) k v xs S).2 - 1)) Q (m_well (m_loop (m_perf n) k v xs S).1) → WkP F h0 Po S ((0, nI k, v, pre ++ xs, pre.length) :: Q).reverse (0, 0, -1, u) := by
  intro xs
  induction xs with
  | nil =>
    intro pre S Q u hI hn hZ
    have hl := hI.len
    have hl2 : Q.length + 1 ≤ 201 := hl
    obtain ⟨hd, -⟩ := hI.out rfl
    rw [List.reverse_cons, List.append_nil]
    have hW := Zk.o0 (show Zk F h0 Po (uD S (sD S - 1)) Q 0 from hZ) u
    refine k_go (by simp) (by simp; omega) (fun h hR => ?_)
    exact mW.imp (d_go0e (by rw [List.length_reverse]; omega) hd hR) (fun r h' hp => ⟨hp.1, fun hf => hW h' hp.2.1 hf, hp.2.2⟩)
  | cons x xs ihx =>
    intro pre S Q u hI hn hZ
    have hl2 : Q.length + 1 ≤ 201 := hI.len
    have el : pre ++ x :: xs = (pre ++ [x]) ++ xs := by simp
    have eln : (pre ++ [x]).length = pre.length + 1 := by simp
    have hxm : rN (sM S) x := by
      obtain ⟨k', -, -, hx⟩ := (hI.2.1 _ List.mem_cons_self).1 rfl
      exact hx x (by simp)
    have hI2 : Iv N S ((0, nI k, v, (pre ++ [x]) ++ xs, (pre ++ [x]).length) :: Q) := by
      rw [el] at hI
      exact hI.nx
    have hW : WkP F h0 Po S (Q.reverse ++ [(0, nI k, v, pre ++ x :: xs, pre.length + 1)]) (if x ∈ sL S k then Xb (sH S x.toNatClampNeg) v u else (0, 0, -1, u)) := by
      rw [el, ← eln, ← List.reverse_cons]
      unfold m_loop at hZ
      by_cases hx : x ∈ sL S k
      · rw [if_pos hx] at hZ ⊢
        have ho := hI.1.2.1 x.toNatClampNeg
        refine ih S _ (sH S x.toNatClampNeg) v u hI2 ho hn ?_
        have hI3 := hI2.perf (n := n) (v := v) ho
        have hg := (PfOk.perf n S (sH S x.toNatClampNeg) v hI.1 ho).2.2
        have her := (PfW.perf n S (sH S x.toNatClampNeg) v).1
        have hsw := (PfOk.perf n S (sH S x.toNatClampNeg) v hI.1 ho).2.1.2.2.2.1
        generalize m_perf n S (sH S x.toNatClampNeg) v = r at hZ hI3 hg her hsw ⊢
        obtain ⟨e, S1⟩ := r
        simp only at hZ hI3 hg her hsw ⊢
        have hw := hI3.2.2.2.2.1 k hk
        by_cases e0 : e = 0
        · subst e0
          rw [m_bell_0, if_pos rfl] at hZ
          exact Zk.z0 (fun u => ihx (pre ++ [x]) S1 Q u hI3 (by omega) hZ)
        by_cases e7 : e = 7
        · subst e7
          rw [m_bell_7, if_neg (show ¬ (7 : Int32) = 0 by decide)] at hZ
          exact Zk.stop (S1 := uD S1 (sD S1 - 1)) (Q1 := Q) (if_pos rfl) hZ
        by_cases hmt : ¬ sW S1 k = 0 ∧ m_met e
        · have eb : m_bell S1 k e = (0, uC S1 (inc (inc (sC S1) 3) 9)) := if_pos hmt
          rw [eb, if_pos rfl] at hZ
          have h1 : sW S1 (nI k).toNatClampNeg = 1 := by
            rw [nI_clamp (by omega)]
            exact hw.resolve_left hmt.1
          refine Zk.met e0 e7 (if_pos ⟨hmt.2, rfl, h1⟩) (Zk.z0 (fun u => ihx (pre ++ [x]) _ Q u (hI3.go (Go.C _ _) (Gw.same rfl rfl rfl)) (by show 201 ≤ n + sS S1; omega) hZ))
        · have eb : m_bell S1 k e = (e, S1) := if_neg hmt
          rw [eb, if_neg (show ¬ (e, S1).1 = 0 from e0)] at hZ
          have ew : m_well e = e := if_neg e7
          rw [show m_well (e, S1).1 = e from ew] at hZ
          refine Zk.eqF e0 e7 ?_ hZ
          have h1 : ¬ (m_met e ∧ (0 : Int32) = 0 ∧ sW S1 (nI k).toNatClampNeg = 1) := fun z => hmt ⟨by
            have := z.2.2
            rw [nI_clamp (by omega)] at this
            rw [this]
            decide, z.1⟩
          have h2 : ¬ (m_met e ∧ (0 : Int32) = 1) := fun z => absurd z.2 (by decide)
          exact (if_neg h1).trans (if_neg h2)
      · rw [if_neg hx] at hZ ⊢
        exact ihx (pre ++ [x]) S Q u hI2 hn hZ
    rw [List.reverse_cons]
    refine k_go (by simp) (by simp; omega) (fun h hR => ?_)
    exact mW.imp (d_go0n (by rw [List.length_reverse]; omega) hk (by simp) hxm hI.1 hR) (fun r h' hp => ⟨hp.1, fun hf => hW h' hp.2.1 hf, hp.2.2⟩)
end
section
theorem m_try_0 (S : St) (t : Nat) : m_try S t 0 = (0, S) := if_neg (fun z => absurd z (by decide))
theorem m_try_7 (S : St) (t : Nat) : m_try S t 7 = (7, S) := if_neg (fun z => absurd z (by decide))
theorem er_5 : er 5 := by unfold er; decide
theorem k_perf {F N : Nat} {h0 : mm_H} {Po : Option Value → mm_H → Prop} : ∀ n, PfK F N h0 Po n := by
  intro n
  induction n with
  | zero =>
    intro S Q o v u hI ho hn hZ
    have := hI.1.2.2.2.2.2.2
    omega
  | succ n ih =>
    intro S Q o v u hI ho hn hZ
    cases o with
    | none => exact k_end er_3 hI hZ u
    | some k =>
      have hk := ho k rfl
      have hA := hI.1.2.2.1 k hk
      have hM40 := hI.1.1
      obtain ⟨j, hj, ej⟩ := rN_sort hA
      have hcan := hA.1
      rw [ej] at hcan
      show WkP F h0 Po S Q.reverse (0, 0, nI k, v)
      by_cases h2 : 200 ≤ sS S
      · have e : m_perf (n + 1) S (some k) v = (6, S) := if_pos h2
        rw [e] at hZ
        exact k_does hI hk (Or.inr ⟨h2, hZ⟩)
      have e : m_perf (n + 1) S (some k) v = m_pf (m_perf n) j (m_begin S k) k (sA S k) v := by
        show (if 200 ≤ sS S then _ else m_pf (m_perf n) (sA S k).1.toNatClampNeg (m_begin S k) k (sA S k) v) = _
        rw [if_neg h2, ej, nI_clamp (by omega)]
      rw [e] at hZ
      refine k_does hI hk (Or.inl ?_)
      unfold r_does
      rw [if_neg h2, ej, nI_clamp (by omega)]
      obtain ⟨hI1, hl1⟩ := hI.begin (k := k) h2
      have hn1 : 201 ≤ n + sS (m_begin S k) := by show 201 ≤ n + (sS S + 1); omega
      have hone : ∀ q, (sA S k).2.2.2.2.1 = some q → q < sM (m_begin S k) := hA.2.1
      have htwo : ∀ q, (sA S k).2.2.2.2.2 = some q → q < sM (m_begin S k) := hA.2.2
      have hal : (¬ j = 5 ∧ ¬ j = 8 ∧ ¬ j = 9 ∧ ¬ j = 10 ∧ ¬ j = 11 ∧ ¬ j = 12) → Zk F h0 Po (m_al j (m_begin S k) (sA S k) v).2 Q (m_al j (m_begin S k) (sA S k) v).1 → WkP F h0 Po (m_al j (m_begin S k) (sA S k) v).2 Q.reverse (Xe (m_al j (m_begin S k) (sA S k) v).1 v) := fun _ hZ => by
        have g := (Go.al (S := m_begin S k) (v := v) j ej hj hA).resolve_right (fun z => z hI1.1)
        exact k_end (er.al _ _ _ _) (hI.go ((Go.begin h2).tr g) (Gw.al j S k (sA S k) v)) hZ v
      generalize hS1 : m_begin S k = S1 at *
      have hcs : j = 0 ∨ j = 1 ∨ j = 2 ∨ j = 3 ∨ j = 4 ∨ j = 5 ∨ j = 6 ∨ j = 7 ∨ j = 8 ∨ j = 9 ∨ j = 10 ∨ j = 11 ∨ j = 12 ∨ j = 13 ∨ j = 14 := by omega
      rcases hcs with rfl | rfl | rfl | rfl | rfl | rfl | rfl | rfl | rfl | rfl | rfl | rfl | rfl | rfl | rfl
      · exact hal (by decide) hZ
      · exact hal (by decide) hZ
      · exact hal (by decide) hZ
      · exact hal (by decide) hZ
      · exact hal (by decide) hZ
      · rw [r_do_5]
        rw [m_pf_5] at hZ
        obtain ⟨i, hi, ei⟩ := rN_of (by omega) (can_5.mpr hcan)
        rw [ei, nI_clamp (by omega)] at hZ ⊢
        unfold r_rings
        unfold m_ring at hZ
        by_cases h8 : 8 ≤ sD S1
        · rw [if_pos h8] at hZ ⊢
          exact k_end er_5 hI1 hZ v
        · rw [if_neg h8] at hZ ⊢
          have hI2 := hI1.ring (f := (0, nI i, v + (sA S k).2.2.1.toInt64, sL S1 i, 0)) (c := inc (sC S1) 2) (by omega) ⟨fun _ => ⟨i, hi, rfl, hI1.1.2.2.2.1 i hi⟩, fun z => absurd (show (0 : Int32) = 1 from z) (by decide), fun z => absurd (show (0 : Int32) = 2 from z) (by decide), Or.inl rfl⟩ rfl h8
          have := k_loop ih hi (sL S1 i) [] (uC (uD S1 (sD S1 + 1)) (inc (sC S1) 2)) Q v hI2 hn1 hZ
          rw [List.reverse_cons] at this
          exact this
      · exact hal (by decide) hZ
      · exact hal (by decide) hZ
      · rw [r_do_8]
        rw [m_pf_8] at hZ
        by_cases hc : nI (sB S1 k) ≤ (sA S k).2.2.1
        · rw [if_pos hc] at hZ
          show WkP F h0 Po S1 Q.reverse (if nI (sB S1 k) ≤ (sA S k).2.2.1 then _ else _)
          rw [if_pos hc]
          exact ih S1 Q _ v v hI1 hone hn1 hZ
        · rw [if_neg hc] at hZ
          show WkP F h0 Po S1 Q.reverse (if nI (sB S1 k) ≤ (sA S k).2.2.1 then _ else _)
          rw [if_neg hc]
          exact Zk.o0 hZ v
      · rw [r_do_9]
        rw [m_pf_9] at hZ
        by_cases hc : nI (sB S1 k) - nI (sB S1 k) / (if (sA S k).2.2.1 < 1 then 1 else (sA S k).2.2.1) * (if (sA S k).2.2.1 < 1 then 1 else (sA S k).2.2.1) = 0
        · rw [if_pos hc] at hZ
          show WkP F h0 Po S1 Q.reverse (if nI (sB S1 k) - nI (sB S1 k) / (if (sA S k).2.2.1 < 1 then 1 else (sA S k).2.2.1) * (if (sA S k).2.2.1 < 1 then 1 else (sA S k).2.2.1) = 0 then _ else _)
          rw [if_pos hc]
          exact ih S1 Q _ v v hI1 hone hn1 hZ
        · rw [if_neg hc] at hZ
          show WkP F h0 Po S1 Q.reverse (if nI (sB S1 k) - nI (sB S1 k) / (if (sA S k).2.2.1 < 1 then 1 else (sA S k).2.2.1) * (if (sA S k).2.2.1 < 1 then 1 else (sA S k).2.2.1) = 0 then _ else _)
          rw [if_neg hc]
          exact Zk.o0 hZ v
      · rw [r_do_10]
        rw [m_pf_10] at hZ
        by_cases hc : 0 < sT S1 (sA S k).2.2.1.toNatClampNeg
        · rw [if_pos hc] at hZ
          show WkP F h0 Po S1 Q.reverse (if 0 < sT S1 (sA S k).2.2.1.toNatClampNeg then _ else _)
          rw [if_pos hc]
          exact ih S1 Q _ v v hI1 hone hn1 hZ
        · rw [if_neg hc] at hZ
          show WkP F h0 Po S1 Q.reverse (if 0 < sT S1 (sA S k).2.2.1.toNatClampNeg then _ else _)
          rw [if_neg hc]
          exact Zk.o0 hZ v
      · rw [r_do_11]
        rw [m_pf_11] at hZ
        show WkP F h0 Po S1 (Q.reverse ++ [(2, oI (sA S k).2.2.2.2.2, v, [], 0)]) (Xb (sA S k).2.2.2.2.1 v v)
        rw [← List.reverse_cons]
        have hI2 : Iv N S1 ((2, oI (sA S k).2.2.2.2.2, v, [], 0) :: Q) := hI1.push hl1 ⟨fun z => absurd (show (2 : Int32) = 0 from z) (by decide), fun z => absurd (show (2 : Int32) = 1 from z) (by decide), fun _ => ⟨(sA S k).2.2.2.2.2, rfl, htwo⟩, Or.inr (Or.inr rfl)⟩ (show ¬ (2 : Int32) = 0 by decide)
        have hl3 : Q.length + 1 ≤ 201 := hI2.len
        refine ih S1 _ _ v v hI2 hone hn1 ?_
        have g := PfOk.perf n S1 (sA S k).2.2.2.2.1 v hI1.1 hone
        have her := (PfW.perf n S1 (sA S k).2.2.2.2.1 v).1
        have hI3 := hI1.perf (n := n) (v := v) hone
        generalize m_perf n S1 (sA S k).2.2.2.2.1 v = r at hZ hI3 g her ⊢
        obtain ⟨e, S2⟩ := r
        have g1 : sM S2 = sM S1 := g.2.1.1
        have g2 : sS S1 ≤ sS S2 := g.2.2
        simp only at hZ hI3 her ⊢
        by_cases e0 : e = 0
        · subst e0
          rw [if_pos rfl] at hZ
          refine Zk.z0 (fun u => ?_)
          have hW := ih S2 Q (sA S k).2.2.2.2.2 v u hI3 (fun q hq => by rw [g1]; exact htwo q hq) (by omega) hZ
          rw [List.reverse_cons]
          refine k_go (by simp) (by simp; omega) (fun h hR => ?_)
          exact mW.imp (d_go12 (X := Xb (sA S k).2.2.2.2.2 v u) (by rw [List.length_reverse]; omega) (show ¬ (2 : Int32) = 0 by decide) (fun _ => ⟨(sA S k).2.2.2.2.2, rfl, fun q hq => by have := htwo q hq; have := hI1.1.1; omega, rfl⟩) (fun z => absurd rfl z) hR) (fun r h' hp => ⟨hp.1, fun hf => hW h' hp.2.1 hf, hp.2.2⟩)
        rw [if_neg e0] at hZ
        by_cases e7 : e = 7
        · subst e7
          exact Zk.stopE (if_neg (show ¬ (2 : Int32) = 0 by decide)) hZ
        · refine Zk.eqF e0 e7 ?_ hZ
          exact (if_neg (fun z => absurd (show (2 : Int32) = 0 from z.2.1) (by decide))).trans ((if_neg (fun z => absurd (show (2 : Int32) = 1 from z.2) (by decide))).trans (congrArg (fun z => r_fails Q z e) (if_neg (show ¬ (2 : Int32) = 0 by decide))))
      · rw [r_do_12]
        rw [m_pf_12] at hZ
        obtain ⟨t, ht, et⟩ := rN_of (by omega) (can_12.mpr hcan).2
        rw [et, nI_clamp (by omega)] at hZ
        show WkP F h0 Po S1 (Q.reverse ++ [(1, (sA S k).2.2.1, v, [], 0)]) (Xb (sA S k).2.2.2.2.1 v v)
        rw [← List.reverse_cons, et]
        have hI2 : Iv N S1 ((1, nI t, v, [], 0) :: Q) := hI1.push hl1 ⟨fun z => absurd (show (1 : Int32) = 0 from z) (by decide), fun _ => ⟨t, ht, rfl⟩, fun z => absurd (show (1 : Int32) = 2 from z) (by decide), Or.inr (Or.inl rfl)⟩ (show ¬ (1 : Int32) = 0 by decide)
        have hl3 : Q.length + 1 ≤ 201 := hI2.len
        refine ih S1 _ _ v v hI2 hone hn1 ?_
        have her := (PfW.perf n S1 (sA S k).2.2.2.2.1 v).1
        generalize m_perf n S1 (sA S k).2.2.2.2.1 v = r at hZ her ⊢
        obtain ⟨e, S2⟩ := r
        simp only at hZ her ⊢
        by_cases e0 : e = 0
        · subst e0
          rw [m_try_0] at hZ
          refine Zk.z0 (fun u => ?_)
          have hW := Zk.o0 hZ u
          rw [List.reverse_cons]
          refine k_go (by simp) (by simp; omega) (fun h hR => ?_)
          exact mW.imp (d_go12 (X := (0, 0, -1, u)) (by rw [List.length_reverse]; omega) (show ¬ (1 : Int32) = 0 by decide) (fun z => absurd (show (1 : Int32) = 2 from z) (by decide)) (fun _ => rfl) hR) (fun r h' hp => ⟨hp.1, fun hf => hW h' hp.2.1 hf, hp.2.2⟩)
        by_cases e7 : e = 7
        · subst e7
          rw [m_try_7] at hZ
          exact Zk.stopE (if_neg (show ¬ (1 : Int32) = 0 by decide)) hZ
        by_cases hmt : m_met e
        · have em : m_try S2 t e = (0, uC (uT S2 (fu (sT S2) t (sT S2 t + 1))) (inc (inc (sC S2) 5) 9)) := if_pos hmt
          rw [em] at hZ
          refine Zk.met e0 e7 ?_ hZ
          have := nI_clamp (n := t) (by omega)
          refine (if_neg (fun z => absurd (show (1 : Int32) = 0 from z.2.1) (by decide))).trans ((if_pos ⟨hmt, rfl⟩).trans ?_)
          show (0, uC (uT S2 (fu (sT S2) (nI t).toNatClampNeg (sT S2 (nI t).toNatClampNeg + 1))) (inc (inc (sC S2) 5) 9), Q) = _
          rw [this]
        · have em : m_try S2 t e = (e, S2) := if_neg hmt
          rw [em] at hZ
          refine Zk.eqF e0 e7 ?_ hZ
          exact (if_neg (fun z => absurd (show (1 : Int32) = 0 from z.2.1) (by decide))).trans ((if_neg (fun z => absurd z.1 hmt)).trans (congrArg (fun z => r_fails Q z e) (if_neg (show ¬ (1 : Int32) = 0 by decide))))
      · exact hal (by decide) hZ
      · exact hal (by decide) hZ
end
