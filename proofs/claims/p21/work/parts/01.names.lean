-- ===== PART A: goes FIRST, ahead of the names: the tables' words, and 'selects' of the private methods out of them =====
/-- a private method of a class that the tables say can be made, by its rows of tables_1 -/
def lw_okq (q : MethodName × Nat) : Prop := (q.1.cls ≠ "java/lang/invoke/MethodHandle" ∧ q.1.cls ≠ "java/lang/invoke/VarHandle") ∧ Cond.instantiable q.1.cls q.2 ∈ tables_1 ∧ Cond.privateMethod q.1 ∈ tables_1 ∧ Cond.instanceMethod q.1 ∈ tables_1
theorem lw_p0 : lw_okq (⟨"PairedSteps", "listingOf", "(I)LPairedSteps$Listing;"⟩, 8) := ⟨⟨by decide +kernel, by decide +kernel⟩, List.mem_of_getElem? (i := 12) (by decide +kernel), List.mem_of_getElem? (i := 262) (by decide +kernel), List.mem_of_getElem? (i := 263) (by decide +kernel)⟩
theorem lw_p1 : lw_okq (⟨"PairedSteps$Listing", "depthOf", "(I)I"⟩, 10) := ⟨⟨by decide +kernel, by decide +kernel⟩, List.mem_of_getElem? (i := 35) (by decide +kernel), List.mem_of_getElem? (i := 274) (by decide +kernel), List.mem_of_getElem? (i := 275) (by decide +kernel)⟩
theorem lw_p2 : lw_okq (⟨"PairedSteps", "traceOf", "(III)LPairedSteps$Trace;"⟩, 8) := ⟨⟨by decide +kernel, by decide +kernel⟩, List.mem_of_getElem? (i := 12) (by decide +kernel), List.mem_of_getElem? (i := 296) (by decide +kernel), List.mem_of_getElem? (i := 297) (by decide +kernel)⟩
theorem lw_p3 : lw_okq (⟨"PairedSteps$Trace", "begin", "(II)V"⟩, 9) := ⟨⟨by decide +kernel, by decide +kernel⟩, List.mem_of_getElem? (i := 127) (by decide +kernel), List.mem_of_getElem? (i := 304) (by decide +kernel), List.mem_of_getElem? (i := 305) (by decide +kernel)⟩
theorem lw_p4 : lw_okq (⟨"PairedSteps$Trace", "stepFrom", "(LPairedSteps$Listing;I)I"⟩, 9) := ⟨⟨by decide +kernel, by decide +kernel⟩, List.mem_of_getElem? (i := 127) (by decide +kernel), List.mem_of_getElem? (i := 313) (by decide +kernel), List.mem_of_getElem? (i := 314) (by decide +kernel)⟩
theorem lw_p5 : lw_okq (⟨"PairedSteps$Listing", "item", "([II)I"⟩, 10) := ⟨⟨by decide +kernel, by decide +kernel⟩, List.mem_of_getElem? (i := 35) (by decide +kernel), List.mem_of_getElem? (i := 321) (by decide +kernel), List.mem_of_getElem? (i := 322) (by decide +kernel)⟩
theorem lw_p6 : lw_okq (⟨"PairedSteps$Trace", "resultOf", "(LPairedSteps$Listing;I)I"⟩, 9) := ⟨⟨by decide +kernel, by decide +kernel⟩, List.mem_of_getElem? (i := 127) (by decide +kernel), List.mem_of_getElem? (i := 334) (by decide +kernel), List.mem_of_getElem? (i := 335) (by decide +kernel)⟩
theorem lw_p7 : lw_okq (⟨"PairedSteps$Trace", "termValue", "(I)I"⟩, 9) := ⟨⟨by decide +kernel, by decide +kernel⟩, List.mem_of_getElem? (i := 127) (by decide +kernel), List.mem_of_getElem? (i := 342) (by decide +kernel), List.mem_of_getElem? (i := 343) (by decide +kernel)⟩
theorem lw_p8 : lw_okq (⟨"PairedSteps$Trace", "setCell", "(II)V"⟩, 9) := ⟨⟨by decide +kernel, by decide +kernel⟩, List.mem_of_getElem? (i := 127) (by decide +kernel), List.mem_of_getElem? (i := 361) (by decide +kernel), List.mem_of_getElem? (i := 362) (by decide +kernel)⟩
theorem lw_p9 : lw_okq (⟨"PairedSteps$Trace", "keepMark", "()V"⟩, 9) := ⟨⟨by decide +kernel, by decide +kernel⟩, List.mem_of_getElem? (i := 127) (by decide +kernel), List.mem_of_getElem? (i := 377) (by decide +kernel), List.mem_of_getElem? (i := 378) (by decide +kernel)⟩
theorem lw_p10 : lw_okq (⟨"PairedSteps$Trace", "countLook", "(IZ)V"⟩, 9) := ⟨⟨by decide +kernel, by decide +kernel⟩, List.mem_of_getElem? (i := 127) (by decide +kernel), List.mem_of_getElem? (i := 382) (by decide +kernel), List.mem_of_getElem? (i := 383) (by decide +kernel)⟩
theorem lw_p11 : lw_okq (⟨"PairedSteps$Sides", "leadAt", "(I)I"⟩, 2) := ⟨⟨by decide +kernel, by decide +kernel⟩, List.mem_of_getElem? (i := 121) (by decide +kernel), List.mem_of_getElem? (i := 458) (by decide +kernel), List.mem_of_getElem? (i := 459) (by decide +kernel)⟩
theorem lw_p12 : lw_okq (⟨"PairedSteps$Sides", "isEven", "(I)Z"⟩, 2) := ⟨⟨by decide +kernel, by decide +kernel⟩, List.mem_of_getElem? (i := 121) (by decide +kernel), List.mem_of_getElem? (i := 478) (by decide +kernel), List.mem_of_getElem? (i := 479) (by decide +kernel)⟩
theorem lw_p13 : lw_okq (⟨"PairedSteps$Sides", "isAlwaysSame", "(II)Z"⟩, 2) := ⟨⟨by decide +kernel, by decide +kernel⟩, List.mem_of_getElem? (i := 121) (by decide +kernel), List.mem_of_getElem? (i := 494) (by decide +kernel), List.mem_of_getElem? (i := 495) (by decide +kernel)⟩
theorem lw_p14 : lw_okq (⟨"PairedSteps$Reader", "nextSign", "()I"⟩, 6) := ⟨⟨by decide +kernel, by decide +kernel⟩, List.mem_of_getElem? (i := 75) (by decide +kernel), List.mem_of_getElem? (i := 567) (by decide +kernel), List.mem_of_getElem? (i := 568) (by decide +kernel)⟩
theorem lw_p15 : lw_okq (⟨"PairedSteps$Reader", "awaitedSign", "()I"⟩, 6) := ⟨⟨by decide +kernel, by decide +kernel⟩, List.mem_of_getElem? (i := 75) (by decide +kernel), List.mem_of_getElem? (i := 576) (by decide +kernel), List.mem_of_getElem? (i := 577) (by decide +kernel)⟩
def lw_privs_1 : List (MethodName × Nat) := [(⟨"PairedSteps", "listingOf", "(I)LPairedSteps$Listing;"⟩, 8), (⟨"PairedSteps$Listing", "depthOf", "(I)I"⟩, 10), (⟨"PairedSteps", "traceOf", "(III)LPairedSteps$Trace;"⟩, 8), (⟨"PairedSteps$Trace", "begin", "(II)V"⟩, 9), (⟨"PairedSteps$Trace", "stepFrom", "(LPairedSteps$Listing;I)I"⟩, 9), (⟨"PairedSteps$Listing", "item", "([II)I"⟩, 10), (⟨"PairedSteps$Trace", "resultOf", "(LPairedSteps$Listing;I)I"⟩, 9), (⟨"PairedSteps$Trace", "termValue", "(I)I"⟩, 9), (⟨"PairedSteps$Trace", "setCell", "(II)V"⟩, 9), (⟨"PairedSteps$Trace", "keepMark", "()V"⟩, 9), (⟨"PairedSteps$Trace", "countLook", "(IZ)V"⟩, 9), (⟨"PairedSteps$Sides", "leadAt", "(I)I"⟩, 2), (⟨"PairedSteps$Sides", "isEven", "(I)Z"⟩, 2), (⟨"PairedSteps$Sides", "isAlwaysSame", "(II)Z"⟩, 2), (⟨"PairedSteps$Reader", "nextSign", "()I"⟩, 6), (⟨"PairedSteps$Reader", "awaitedSign", "()I"⟩, 6)]
theorem lw_r1 : ∀ q ∈ lw_privs_1, lw_okq q := List.forall_mem_cons.mpr ⟨lw_p0, List.forall_mem_cons.mpr ⟨lw_p1, List.forall_mem_cons.mpr ⟨lw_p2, List.forall_mem_cons.mpr ⟨lw_p3, List.forall_mem_cons.mpr ⟨lw_p4, List.forall_mem_cons.mpr ⟨lw_p5, List.forall_mem_cons.mpr ⟨lw_p6, List.forall_mem_cons.mpr ⟨lw_p7, List.forall_mem_cons.mpr ⟨lw_p8, List.forall_mem_cons.mpr ⟨lw_p9, List.forall_mem_cons.mpr ⟨lw_p10, List.forall_mem_cons.mpr ⟨lw_p11, List.forall_mem_cons.mpr ⟨lw_p12, List.forall_mem_cons.mpr ⟨lw_p13, List.forall_mem_cons.mpr ⟨lw_p14, List.forall_mem_cons.mpr ⟨lw_p15, fun _ h => absurd h List.not_mem_nil⟩⟩⟩⟩⟩⟩⟩⟩⟩⟩⟩⟩⟩⟩⟩⟩
theorem lw_p16 : lw_okq (⟨"PairedSteps$Reader", "readStatement", "(I)Z"⟩, 6) := ⟨⟨by decide +kernel, by decide +kernel⟩, List.mem_of_getElem? (i := 75) (by decide +kernel), List.mem_of_getElem? (i := 581) (by decide +kernel), List.mem_of_getElem? (i := 582) (by decide +kernel)⟩
theorem lw_p17 : lw_okq (⟨"PairedSteps$Reader", "readTell", "()Z"⟩, 6) := ⟨⟨by decide +kernel, by decide +kernel⟩, List.mem_of_getElem? (i := 75) (by decide +kernel), List.mem_of_getElem? (i := 589) (by decide +kernel), List.mem_of_getElem? (i := 590) (by decide +kernel)⟩
theorem lw_p18 : lw_okq (⟨"PairedSteps$Reader", "takeCell", "()I"⟩, 6) := ⟨⟨by decide +kernel, by decide +kernel⟩, List.mem_of_getElem? (i := 75) (by decide +kernel), List.mem_of_getElem? (i := 593) (by decide +kernel), List.mem_of_getElem? (i := 594) (by decide +kernel)⟩
theorem lw_p19 : lw_okq (⟨"PairedSteps$Reader", "take", "(I)Z"⟩, 6) := ⟨⟨by decide +kernel, by decide +kernel⟩, List.mem_of_getElem? (i := 75) (by decide +kernel), List.mem_of_getElem? (i := 598) (by decide +kernel), List.mem_of_getElem? (i := 599) (by decide +kernel)⟩
theorem lw_p20 : lw_okq (⟨"PairedSteps$Reader", "innermost", "()I"⟩, 6) := ⟨⟨by decide +kernel, by decide +kernel⟩, List.mem_of_getElem? (i := 75) (by decide +kernel), List.mem_of_getElem? (i := 602) (by decide +kernel), List.mem_of_getElem? (i := 603) (by decide +kernel)⟩
theorem lw_p21 : lw_okq (⟨"PairedSteps$Reader", "readOpening", "(II)Z"⟩, 6) := ⟨⟨by decide +kernel, by decide +kernel⟩, List.mem_of_getElem? (i := 75) (by decide +kernel), List.mem_of_getElem? (i := 611) (by decide +kernel), List.mem_of_getElem? (i := 612) (by decide +kernel)⟩
theorem lw_p22 : lw_okq (⟨"PairedSteps$Reader", "readSetting", "()Z"⟩, 6) := ⟨⟨by decide +kernel, by decide +kernel⟩, List.mem_of_getElem? (i := 75) (by decide +kernel), List.mem_of_getElem? (i := 615) (by decide +kernel), List.mem_of_getElem? (i := 616) (by decide +kernel)⟩
theorem lw_p23 : lw_okq (⟨"PairedSteps$Reader", "takeTerm", "()I"⟩, 6) := ⟨⟨by decide +kernel, by decide +kernel⟩, List.mem_of_getElem? (i := 75) (by decide +kernel), List.mem_of_getElem? (i := 619) (by decide +kernel), List.mem_of_getElem? (i := 620) (by decide +kernel)⟩
theorem lw_p24 : lw_okq (⟨"PairedSteps$Reader", "takeNumber", "()I"⟩, 6) := ⟨⟨by decide +kernel, by decide +kernel⟩, List.mem_of_getElem? (i := 75) (by decide +kernel), List.mem_of_getElem? (i := 626) (by decide +kernel), List.mem_of_getElem? (i := 627) (by decide +kernel)⟩
theorem lw_p25 : lw_okq (⟨"PairedSteps$Reader", "takeOperator", "()I"⟩, 6) := ⟨⟨by decide +kernel, by decide +kernel⟩, List.mem_of_getElem? (i := 75) (by decide +kernel), List.mem_of_getElem? (i := 630) (by decide +kernel), List.mem_of_getElem? (i := 631) (by decide +kernel)⟩
theorem lw_p26 : lw_okq (⟨"PairedSteps$Listing", "followerOf", "(I)I"⟩, 10) := ⟨⟨by decide +kernel, by decide +kernel⟩, List.mem_of_getElem? (i := 35) (by decide +kernel), List.mem_of_getElem? (i := 642) (by decide +kernel), List.mem_of_getElem? (i := 643) (by decide +kernel)⟩
theorem lw_p27 : lw_okq (⟨"PairedSteps$Reader", "goOn", "(I)V"⟩, 6) := ⟨⟨by decide +kernel, by decide +kernel⟩, List.mem_of_getElem? (i := 75) (by decide +kernel), List.mem_of_getElem? (i := 646) (by decide +kernel), List.mem_of_getElem? (i := 647) (by decide +kernel)⟩
theorem lw_p28 : lw_okq (⟨"PairedSteps$History", "dropOldest", "()V"⟩, 3) := ⟨⟨by decide +kernel, by decide +kernel⟩, List.mem_of_getElem? (i := 101) (by decide +kernel), List.mem_of_getElem? (i := 662) (by decide +kernel), List.mem_of_getElem? (i := 663) (by decide +kernel)⟩
theorem lw_p29 : lw_okq (⟨"PairedSteps$Listing", "moveDown", "(II)V"⟩, 10) := ⟨⟨by decide +kernel, by decide +kernel⟩, List.mem_of_getElem? (i := 35) (by decide +kernel), List.mem_of_getElem? (i := 684) (by decide +kernel), List.mem_of_getElem? (i := 685) (by decide +kernel)⟩
def lw_privs_2 : List (MethodName × Nat) := [(⟨"PairedSteps$Reader", "readStatement", "(I)Z"⟩, 6), (⟨"PairedSteps$Reader", "readTell", "()Z"⟩, 6), (⟨"PairedSteps$Reader", "takeCell", "()I"⟩, 6), (⟨"PairedSteps$Reader", "take", "(I)Z"⟩, 6), (⟨"PairedSteps$Reader", "innermost", "()I"⟩, 6), (⟨"PairedSteps$Reader", "readOpening", "(II)Z"⟩, 6), (⟨"PairedSteps$Reader", "readSetting", "()Z"⟩, 6), (⟨"PairedSteps$Reader", "takeTerm", "()I"⟩, 6), (⟨"PairedSteps$Reader", "takeNumber", "()I"⟩, 6), (⟨"PairedSteps$Reader", "takeOperator", "()I"⟩, 6), (⟨"PairedSteps$Listing", "followerOf", "(I)I"⟩, 10), (⟨"PairedSteps$Reader", "goOn", "(I)V"⟩, 6), (⟨"PairedSteps$History", "dropOldest", "()V"⟩, 3), (⟨"PairedSteps$Listing", "moveDown", "(II)V"⟩, 10)]
theorem lw_r2 : ∀ q ∈ lw_privs_2, lw_okq q := List.forall_mem_cons.mpr ⟨lw_p16, List.forall_mem_cons.mpr ⟨lw_p17, List.forall_mem_cons.mpr ⟨lw_p18, List.forall_mem_cons.mpr ⟨lw_p19, List.forall_mem_cons.mpr ⟨lw_p20, List.forall_mem_cons.mpr ⟨lw_p21, List.forall_mem_cons.mpr ⟨lw_p22, List.forall_mem_cons.mpr ⟨lw_p23, List.forall_mem_cons.mpr ⟨lw_p24, List.forall_mem_cons.mpr ⟨lw_p25, List.forall_mem_cons.mpr ⟨lw_p26, List.forall_mem_cons.mpr ⟨lw_p27, List.forall_mem_cons.mpr ⟨lw_p28, List.forall_mem_cons.mpr ⟨lw_p29, fun _ h => absurd h List.not_mem_nil⟩⟩⟩⟩⟩⟩⟩⟩⟩⟩⟩⟩⟩⟩
def lw_privs : List (MethodName × Nat) := lw_privs_1 ++ (lw_privs_2)
def lw_tbl : List Cond := k2_sels lw_privs ++ tables_1
theorem lw_privs_ok : ∀ q ∈ lw_privs, lw_okq q := by
  show ∀ q ∈ lw_privs_1 ++ (lw_privs_2), lw_okq q
  exact List.forall_mem_append.mpr ⟨lw_r1, lw_r2⟩


def RX0 : String := "PairedSteps$History"
def TX0 : u_T := fun k => match k with
  | 0 => ("PairedSteps$History", "zeroths", "[LPairedSteps$Listing;", true)
  | 1 => ("PairedSteps$History", "others", "[LPairedSteps$Listing;", true)
  | _ => ("PairedSteps$History", "size", "I", false)
def tyX0 : Nat → FieldType := fun k => match k with
  | 0 => .array (.object "PairedSteps$Listing")
  | 1 => .array (.object "PairedSteps$Listing")
  | _ => .int
abbrev wsX00 : List Cond := u_ws RX0 TX0 3
theorem nmX0 : ∀ a, a < 3 → ∀ b, b < 3 → a ≠ b → (TX0 a).2.1 ≠ (TX0 b).2.1 := by decide +kernel
theorem tyX0_ok : ∀ k, k < 3 → parseFieldDescriptor (TX0 k).2.2.1 = some (tyX0 k) := by decide +kernel
abbrev cX0_init : ByteArray := prog_2_method_1_code
def yX0_init : MethodName := ⟨RX0, "<init>", "()V"⟩
abbrev cX0_push : ByteArray := prog_2_method_2_code
def yX0_push : MethodName := ⟨RX0, "push", "(LPairedSteps$Listing;LPairedSteps$Listing;)V"⟩
abbrev cX0_pop : ByteArray := prog_2_method_3_code
def yX0_pop : MethodName := ⟨RX0, "pop", "(LPairedSteps$Listing;LPairedSteps$Listing;)V"⟩
abbrev cX0_dropOldest : ByteArray := prog_2_method_4_code
def yX0_dropOldest : MethodName := ⟨RX0, "dropOldest", "()V"⟩
def RX1 : String := "PairedSteps$Listing"
def TX1 : u_T := fun k => match k with
  | 0 => ("PairedSteps$Listing", "size", "I", false)
  | 1 => ("PairedSteps$Listing", "kinds", "[I", true)
  | 2 => ("PairedSteps$Listing", "targets", "[I", true)
  | 3 => ("PairedSteps$Listing", "lefts", "[I", true)
  | 4 => ("PairedSteps$Listing", "operators", "[I", true)
  | 5 => ("PairedSteps$Listing", "rights", "[I", true)
  | 6 => ("PairedSteps$Listing", "outers", "[I", true)
  | 7 => ("PairedSteps$Listing", "middles", "[I", true)
  | 8 => ("PairedSteps$Listing", "ends", "[I", true)
  | _ => ("PairedSteps$Listing", "followers", "[I", true)
def tyX1 : Nat → FieldType := fun k => match k with
  | 0 => .int
  | 1 => .array .int
  | 2 => .array .int
  | 3 => .array .int
  | 4 => .array .int
  | 5 => .array .int
  | 6 => .array .int
  | 7 => .array .int
  | 8 => .array .int
  | _ => .array .int
abbrev wsX10 : List Cond := u_ws RX1 TX1 10
theorem nmX1 : ∀ a, a < 10 → ∀ b, b < 10 → a ≠ b → (TX1 a).2.1 ≠ (TX1 b).2.1 := by decide +kernel
theorem tyX1_ok : ∀ k, k < 10 → parseFieldDescriptor (TX1 k).2.2.1 = some (tyX1 k) := by decide +kernel
abbrev cX1_init : ByteArray := prog_3_method_1_code
def yX1_init : MethodName := ⟨RX1, "<init>", "()V"⟩
abbrev cX1_isFull : ByteArray := prog_3_method_2_code
def yX1_isFull : MethodName := ⟨RX1, "isFull", "()Z"⟩
abbrev cX1_holds : ByteArray := prog_3_method_3_code
def yX1_holds : MethodName := ⟨RX1, "holds", "(I)Z"⟩
abbrev cX1_add : ByteArray := prog_3_method_4_code
def yX1_add : MethodName := ⟨RX1, "add", "(III)Z"⟩
abbrev cX1_setTerms : ByteArray := prog_3_method_5_code
def yX1_setTerms : MethodName := ⟨RX1, "setTerms", "(III)V"⟩
abbrev cX1_endFirstPart : ByteArray := prog_3_method_6_code
def yX1_endFirstPart : MethodName := ⟨RX1, "endFirstPart", "(I)V"⟩
abbrev cX1_close : ByteArray := prog_3_method_7_code
def yX1_close : MethodName := ⟨RX1, "close", "(I)V"⟩
abbrev cX1_takeFrom : ByteArray := prog_3_method_8_code
def yX1_takeFrom : MethodName := ⟨RX1, "takeFrom", "(LPairedSteps$Listing;)V"⟩
abbrev cX1_remove : ByteArray := prog_3_method_9_code
def yX1_remove : MethodName := ⟨RX1, "remove", "(I)V"⟩
abbrev cX1_moveDown : ByteArray := prog_3_method_10_code
def yX1_moveDown : MethodName := ⟨RX1, "moveDown", "(II)V"⟩
abbrev cX1_placeWithout : ByteArray := prog_3_method_11_code
def yX1_placeWithout : MethodName := ⟨RX1, "placeWithout", "(III)I"⟩
abbrev cX1_link : ByteArray := prog_3_method_12_code
def yX1_link : MethodName := ⟨RX1, "link", "()V"⟩
abbrev cX1_followerOf : ByteArray := prog_3_method_13_code
def yX1_followerOf : MethodName := ⟨RX1, "followerOf", "(I)I"⟩
abbrev cX1_entered : ByteArray := prog_3_method_14_code
def yX1_entered : MethodName := ⟨RX1, "entered", "(I)I"⟩
abbrev cX1_passed : ByteArray := prog_3_method_15_code
def yX1_passed : MethodName := ⟨RX1, "passed", "(I)I"⟩
abbrev cX1_kindOf : ByteArray := prog_3_method_16_code
def yX1_kindOf : MethodName := ⟨RX1, "kindOf", "(I)I"⟩
abbrev cX1_targetOf : ByteArray := prog_3_method_17_code
def yX1_targetOf : MethodName := ⟨RX1, "targetOf", "(I)I"⟩
abbrev cX1_leftOf : ByteArray := prog_3_method_18_code
def yX1_leftOf : MethodName := ⟨RX1, "leftOf", "(I)I"⟩
abbrev cX1_operatorOf : ByteArray := prog_3_method_19_code
def yX1_operatorOf : MethodName := ⟨RX1, "operatorOf", "(I)I"⟩
abbrev cX1_rightOf : ByteArray := prog_3_method_20_code
def yX1_rightOf : MethodName := ⟨RX1, "rightOf", "(I)I"⟩
abbrev cX1_followerAt : ByteArray := prog_3_method_21_code
def yX1_followerAt : MethodName := ⟨RX1, "followerAt", "(I)I"⟩
abbrev cX1_item : ByteArray := prog_3_method_22_code
def yX1_item : MethodName := ⟨RX1, "item", "([II)I"⟩
abbrev cX1_tally : ByteArray := prog_3_method_23_code
def yX1_tally : MethodName := ⟨RX1, "tally", "(I)I"⟩
abbrev cX1_nesting : ByteArray := prog_3_method_24_code
def yX1_nesting : MethodName := ⟨RX1, "nesting", "()I"⟩
abbrev cX1_depthOf : ByteArray := prog_3_method_25_code
def yX1_depthOf : MethodName := ⟨RX1, "depthOf", "(I)I"⟩
abbrev cX1_settableCells : ByteArray := prog_3_method_26_code
def yX1_settableCells : MethodName := ⟨RX1, "settableCells", "()I"⟩
def RX2 : String := "PairedSteps$Output"
def TX2 : u_T := fun k => match k with
  | 0 => ("PairedSteps$Output", "values", "[I", true)
  | 1 => ("PairedSteps$Output", "total", "I", false)
  | _ => ("PairedSteps$Output", "cutOff", "Z", false)
def tyX2 : Nat → FieldType := fun k => match k with
  | 0 => .array .int
  | 1 => .int
  | _ => .boolean
abbrev wsX20 : List Cond := u_ws RX2 TX2 3
theorem nmX2 : ∀ a, a < 3 → ∀ b, b < 3 → a ≠ b → (TX2 a).2.1 ≠ (TX2 b).2.1 := by decide +kernel
theorem tyX2_ok : ∀ k, k < 3 → parseFieldDescriptor (TX2 k).2.2.1 = some (tyX2 k) := by decide +kernel
abbrev cX2_init : ByteArray := prog_4_method_1_code
def yX2_init : MethodName := ⟨RX2, "<init>", "()V"⟩
abbrev cX2_begin : ByteArray := prog_4_method_2_code
def yX2_begin : MethodName := ⟨RX2, "begin", "()V"⟩
abbrev cX2_add : ByteArray := prog_4_method_3_code
def yX2_add : MethodName := ⟨RX2, "add", "(I)V"⟩
abbrev cX2_valueAt : ByteArray := prog_4_method_5_code
def yX2_valueAt : MethodName := ⟨RX2, "valueAt", "(I)I"⟩
abbrev cX2_firstDifference : ByteArray := prog_4_method_6_code
def yX2_firstDifference : MethodName := ⟨RX2, "firstDifference", "(LPairedSteps$Output;)I"⟩
abbrev cX2_hasValuesOf : ByteArray := prog_4_method_7_code
def yX2_hasValuesOf : MethodName := ⟨RX2, "hasValuesOf", "(LPairedSteps$Output;)Z"⟩
def RX3 : String := "PairedSteps$Reader"
def TX3 : u_T := fun k => match k with
  | 0 => ("PairedSteps$Reader", "text", "LPairedSteps$Text;", true)
  | 1 => ("PairedSteps$Reader", "draft", "LPairedSteps$Listing;", true)
  | 2 => ("PairedSteps$Reader", "opened", "[I", true)
  | 3 => ("PairedSteps$Reader", "awaited", "[I", true)
  | 4 => ("PairedSteps$Reader", "depth", "I", false)
  | _ => ("PairedSteps$Reader", "place", "I", false)
def tyX3 : Nat → FieldType := fun k => match k with
  | 0 => .object "PairedSteps$Text"
  | 1 => .object "PairedSteps$Listing"
  | 2 => .array .int
  | 3 => .array .int
  | 4 => .int
  | _ => .int
abbrev wsX30 : List Cond := u_ws RX3 TX3 6
theorem nmX3 : ∀ a, a < 6 → ∀ b, b < 6 → a ≠ b → (TX3 a).2.1 ≠ (TX3 b).2.1 := by decide +kernel
theorem tyX3_ok : ∀ k, k < 6 → parseFieldDescriptor (TX3 k).2.2.1 = some (tyX3 k) := by decide +kernel
abbrev cX3_init : ByteArray := prog_5_method_1_code
def yX3_init : MethodName := ⟨RX3, "<init>", "(LPairedSteps$Text;LPairedSteps$Listing;)V"⟩
abbrev cX3_readDraft : ByteArray := prog_5_method_2_code
def yX3_readDraft : MethodName := ⟨RX3, "readDraft", "()Z"⟩
abbrev cX3_readStatement : ByteArray := prog_5_method_3_code
def yX3_readStatement : MethodName := ⟨RX3, "readStatement", "(I)Z"⟩
abbrev cX3_readTell : ByteArray := prog_5_method_4_code
def yX3_readTell : MethodName := ⟨RX3, "readTell", "()Z"⟩
abbrev cX3_readSetting : ByteArray := prog_5_method_5_code
def yX3_readSetting : MethodName := ⟨RX3, "readSetting", "()Z"⟩
abbrev cX3_readOpening : ByteArray := prog_5_method_6_code
def yX3_readOpening : MethodName := ⟨RX3, "readOpening", "(II)Z"⟩
abbrev cX3_goOn : ByteArray := prog_5_method_7_code
def yX3_goOn : MethodName := ⟨RX3, "goOn", "(I)V"⟩
abbrev cX3_innermost : ByteArray := prog_5_method_8_code
def yX3_innermost : MethodName := ⟨RX3, "innermost", "()I"⟩
abbrev cX3_awaitedSign : ByteArray := prog_5_method_9_code
def yX3_awaitedSign : MethodName := ⟨RX3, "awaitedSign", "()I"⟩
abbrev cX3_nextSign : ByteArray := prog_5_method_10_code
def yX3_nextSign : MethodName := ⟨RX3, "nextSign", "()I"⟩
abbrev cX3_take : ByteArray := prog_5_method_11_code
def yX3_take : MethodName := ⟨RX3, "take", "(I)Z"⟩
abbrev cX3_takeCell : ByteArray := prog_5_method_12_code
def yX3_takeCell : MethodName := ⟨RX3, "takeCell", "()I"⟩
abbrev cX3_takeOperator : ByteArray := prog_5_method_13_code
def yX3_takeOperator : MethodName := ⟨RX3, "takeOperator", "()I"⟩
abbrev cX3_takeTerm : ByteArray := prog_5_method_14_code
def yX3_takeTerm : MethodName := ⟨RX3, "takeTerm", "()I"⟩
abbrev cX3_takeNumber : ByteArray := prog_5_method_15_code
def yX3_takeNumber : MethodName := ⟨RX3, "takeNumber", "()I"⟩
abbrev cX3_isDigit : ByteArray := prog_5_method_16_code
def yX3_isDigit : MethodName := ⟨RX3, "isDigit", "(I)Z"⟩
def RX4 : String := "PairedSteps$Sides"
def TX4 : u_T := fun k => match k with
  | 0 => ("PairedSteps$Sides", "zeroth", "LPairedSteps$Trace;", true)
  | _ => ("PairedSteps$Sides", "other", "LPairedSteps$Trace;", true)
def tyX4 : Nat → FieldType := fun k => match k with
  | 0 => .object "PairedSteps$Trace"
  | _ => .object "PairedSteps$Trace"
abbrev wsX40 : List Cond := u_ws RX4 TX4 2
theorem nmX4 : ∀ a, a < 2 → ∀ b, b < 2 → a ≠ b → (TX4 a).2.1 ≠ (TX4 b).2.1 := by decide +kernel
theorem tyX4_ok : ∀ k, k < 2 → parseFieldDescriptor (TX4 k).2.2.1 = some (tyX4 k) := by decide +kernel
abbrev cX4_init : ByteArray := prog_6_method_1_code
def yX4_init : MethodName := ⟨RX4, "<init>", "()V"⟩
abbrev cX4_follow : ByteArray := prog_6_method_2_code
def yX4_follow : MethodName := ⟨RX4, "follow", "(LPairedSteps$Listing;LPairedSteps$Listing;II)V"⟩
abbrev cX4_pairsKept : ByteArray := prog_6_method_3_code
def yX4_pairsKept : MethodName := ⟨RX4, "pairsKept", "()I"⟩
abbrev cX4_leadAt : ByteArray := prog_6_method_4_code
def yX4_leadAt : MethodName := ⟨RX4, "leadAt", "(I)I"⟩
abbrev cX4_greatestLead : ByteArray := prog_6_method_5_code
def yX4_greatestLead : MethodName := ⟨RX4, "greatestLead", "()I"⟩
abbrev cX4_lastLead : ByteArray := prog_6_method_6_code
def yX4_lastLead : MethodName := ⟨RX4, "lastLead", "()I"⟩
abbrev cX4_evenPairs : ByteArray := prog_6_method_7_code
def yX4_evenPairs : MethodName := ⟨RX4, "evenPairs", "()I"⟩
abbrev cX4_isEven : ByteArray := prog_6_method_8_code
def yX4_isEven : MethodName := ⟨RX4, "isEven", "(I)Z"⟩
abbrev cX4_cellsEqualTo : ByteArray := prog_6_method_9_code
def yX4_cellsEqualTo : MethodName := ⟨RX4, "cellsEqualTo", "(I)I"⟩
abbrev cX4_isAlwaysSame : ByteArray := prog_6_method_10_code
def yX4_isAlwaysSame : MethodName := ⟨RX4, "isAlwaysSame", "(II)Z"⟩
abbrev cX4_inAgreement : ByteArray := prog_6_method_11_code
def yX4_inAgreement : MethodName := ⟨RX4, "inAgreement", "()Z"⟩
def RX5 : String := "PairedSteps$Text"
def TX5 : u_T := fun k => match k with
  | 0 => ("PairedSteps$Text", "signs", "[C", true)
  | _ => ("PairedSteps$Text", "length", "I", false)
def tyX5 : Nat → FieldType := fun k => match k with
  | 0 => .array .char
  | _ => .int
abbrev wsX50 : List Cond := u_ws RX5 TX5 2
theorem nmX5 : ∀ a, a < 2 → ∀ b, b < 2 → a ≠ b → (TX5 a).2.1 ≠ (TX5 b).2.1 := by decide +kernel
theorem tyX5_ok : ∀ k, k < 2 → parseFieldDescriptor (TX5 k).2.2.1 = some (tyX5 k) := by decide +kernel
abbrev cX5_init : ByteArray := prog_7_method_1_code
def yX5_init : MethodName := ⟨RX5, "<init>", "()V"⟩
abbrev cX5_isFull : ByteArray := prog_7_method_2_code
def yX5_isFull : MethodName := ⟨RX5, "isFull", "()Z"⟩
abbrev cX5_add : ByteArray := prog_7_method_3_code
def yX5_add : MethodName := ⟨RX5, "add", "(C)V"⟩
abbrev cX5_signAt : ByteArray := prog_7_method_4_code
def yX5_signAt : MethodName := ⟨RX5, "signAt", "(I)I"⟩
def RX6 : String := "PairedSteps$Trace"
def TX6 : u_T := fun k => match k with
  | 0 => ("PairedSteps$Trace", "output", "LPairedSteps$Output;", true)
  | 1 => ("PairedSteps$Trace", "cells", "[I", true)
  | 2 => ("PairedSteps$Trace", "cellsAtMarks", "[I", true)
  | 3 => ("PairedSteps$Trace", "stepsAhead", "[I", true)
  | 4 => ("PairedSteps$Trace", "roundsSince", "[I", true)
  | 5 => ("PairedSteps$Trace", "steps", "I", false)
  | 6 => ("PairedSteps$Trace", "marks", "I", false)
  | 7 => ("PairedSteps$Trace", "rounds", "I", false)
  | _ => ("PairedSteps$Trace", "mostRounds", "I", false)
def tyX6 : Nat → FieldType := fun k => match k with
  | 0 => .object "PairedSteps$Output"
  | 1 => .array .int
  | 2 => .array .int
  | 3 => .array .int
  | 4 => .array .int
  | 5 => .int
  | 6 => .int
  | 7 => .int
  | _ => .int
abbrev wsX60 : List Cond := u_ws RX6 TX6 9
theorem nmX6 : ∀ a, a < 9 → ∀ b, b < 9 → a ≠ b → (TX6 a).2.1 ≠ (TX6 b).2.1 := by decide +kernel
theorem tyX6_ok : ∀ k, k < 9 → parseFieldDescriptor (TX6 k).2.2.1 = some (tyX6 k) := by decide +kernel
abbrev cX6_init : ByteArray := prog_8_method_1_code
def yX6_init : MethodName := ⟨RX6, "<init>", "()V"⟩
abbrev cX6_follow : ByteArray := prog_8_method_2_code
def yX6_follow : MethodName := ⟨RX6, "follow", "(LPairedSteps$Listing;II)V"⟩
abbrev cX6_begin : ByteArray := prog_8_method_3_code
def yX6_begin : MethodName := ⟨RX6, "begin", "(II)V"⟩
abbrev cX6_stepFrom : ByteArray := prog_8_method_4_code
def yX6_stepFrom : MethodName := ⟨RX6, "stepFrom", "(LPairedSteps$Listing;I)I"⟩
abbrev cX6_countLook : ByteArray := prog_8_method_5_code
def yX6_countLook : MethodName := ⟨RX6, "countLook", "(IZ)V"⟩
abbrev cX6_resultOf : ByteArray := prog_8_method_6_code
def yX6_resultOf : MethodName := ⟨RX6, "resultOf", "(LPairedSteps$Listing;I)I"⟩
abbrev cX6_termValue : ByteArray := prog_8_method_7_code
def yX6_termValue : MethodName := ⟨RX6, "termValue", "(I)I"⟩
abbrev cX6_nearestValue : ByteArray := prog_8_method_8_code
def yX6_nearestValue : MethodName := ⟨RX6, "nearestValue", "(I)I"⟩
abbrev cX6_setCell : ByteArray := prog_8_method_9_code
def yX6_setCell : MethodName := ⟨RX6, "setCell", "(II)V"⟩
abbrev cX6_keepMark : ByteArray := prog_8_method_10_code
def yX6_keepMark : MethodName := ⟨RX6, "keepMark", "()V"⟩
abbrev cX6_marksKept : ByteArray := prog_8_method_11_code
def yX6_marksKept : MethodName := ⟨RX6, "marksKept", "()I"⟩
abbrev cX6_valueOf : ByteArray := prog_8_method_12_code
def yX6_valueOf : MethodName := ⟨RX6, "valueOf", "(I)I"⟩
abbrev cX6_cellAtMark : ByteArray := prog_8_method_13_code
def yX6_cellAtMark : MethodName := ⟨RX6, "cellAtMark", "(II)I"⟩
abbrev cX6_stepsAheadOf : ByteArray := prog_8_method_14_code
def yX6_stepsAheadOf : MethodName := ⟨RX6, "stepsAheadOf", "(I)I"⟩
def RX7 : String := "PairedSteps"
def TX7 : u_T := fun k => match k with
  | 0 => ("PairedSteps", "text", "LPairedSteps$Text;", true)
  | 1 => ("PairedSteps", "draft", "LPairedSteps$Listing;", true)
  | 2 => ("PairedSteps", "reader", "LPairedSteps$Reader;", true)
  | 3 => ("PairedSteps", "history", "LPairedSteps$History;", true)
  | 4 => ("PairedSteps", "sides", "LPairedSteps$Sides;", true)
  | 5 => ("PairedSteps", "outputsBefore", "[LPairedSteps$Output;", true)
  | 6 => ("PairedSteps", "zeroth", "LPairedSteps$Listing;", false)
  | _ => ("PairedSteps", "other", "LPairedSteps$Listing;", false)
def tyX7 : Nat → FieldType := fun k => match k with
  | 0 => .object "PairedSteps$Text"
  | 1 => .object "PairedSteps$Listing"
  | 2 => .object "PairedSteps$Reader"
  | 3 => .object "PairedSteps$History"
  | 4 => .object "PairedSteps$Sides"
  | 5 => .array (.object "PairedSteps$Output")
  | 6 => .object "PairedSteps$Listing"
  | _ => .object "PairedSteps$Listing"
abbrev wsX70 : List Cond := u_ws RX7 TX7 8
theorem nmX7 : ∀ a, a < 8 → ∀ b, b < 8 → a ≠ b → (TX7 a).2.1 ≠ (TX7 b).2.1 := by decide +kernel
theorem tyX7_ok : ∀ k, k < 8 → parseFieldDescriptor (TX7 k).2.2.1 = some (tyX7 k) := by decide +kernel
abbrev cX7_init : ByteArray := prog_1_method_1_code
def yX7_init : MethodName := ⟨RX7, "<init>", "()V"⟩
abbrev cX7_append : ByteArray := prog_1_method_2_code
def yX7_append : MethodName := ⟨RX7, "append", "(I)I"⟩
abbrev cX7_clearText : ByteArray := prog_1_method_3_code
def yX7_clearText : MethodName := ⟨RX7, "clearText", "()I"⟩
abbrev cX7_read : ByteArray := prog_1_method_4_code
def yX7_read : MethodName := ⟨RX7, "read", "(I)I"⟩
abbrev cX7_copy : ByteArray := prog_1_method_5_code
def yX7_copy : MethodName := ⟨RX7, "copy", "()I"⟩
abbrev cX7_exchange : ByteArray := prog_1_method_6_code
def yX7_exchange : MethodName := ⟨RX7, "exchange", "()I"⟩
abbrev cX7_cut : ByteArray := prog_1_method_7_code
def yX7_cut : MethodName := ⟨RX7, "cut", "(II)I"⟩
abbrev cX7_undo : ByteArray := prog_1_method_8_code
def yX7_undo : MethodName := ⟨RX7, "undo", "()I"⟩
abbrev cX7_count : ByteArray := prog_1_method_9_code
def yX7_count : MethodName := ⟨RX7, "count", "(I)I"⟩
abbrev cX7_program : ByteArray := prog_1_method_10_code
def yX7_program : MethodName := ⟨RX7, "program", "(II)I"⟩
abbrev cX7_run : ByteArray := prog_1_method_11_code
def yX7_run : MethodName := ⟨RX7, "run", "(IIII)I"⟩
abbrev cX7_told : ByteArray := prog_1_method_12_code
def yX7_told : MethodName := ⟨RX7, "told", "(IIII)I"⟩
abbrev cX7_cell : ByteArray := prog_1_method_13_code
def yX7_cell : MethodName := ⟨RX7, "cell", "(IIIII)I"⟩
abbrev cX7_pairs : ByteArray := prog_1_method_14_code
def yX7_pairs : MethodName := ⟨RX7, "pairs", "(III)I"⟩
abbrev cX7_equal : ByteArray := prog_1_method_15_code
def yX7_equal : MethodName := ⟨RX7, "equal", "(III)I"⟩
abbrev cX7_difference : ByteArray := prog_1_method_16_code
def yX7_difference : MethodName := ⟨RX7, "difference", "(II)I"⟩
abbrev cX7_agree : ByteArray := prog_1_method_17_code
def yX7_agree : MethodName := ⟨RX7, "agree", "(III)I"⟩
abbrev cX7_listingOf : ByteArray := prog_1_method_22_code
def yX7_listingOf : MethodName := ⟨RX7, "listingOf", "(I)LPairedSteps$Listing;"⟩
abbrev cX7_traceOf : ByteArray := prog_1_method_23_code
def yX7_traceOf : MethodName := ⟨RX7, "traceOf", "(III)LPairedSteps$Trace;"⟩
abbrev cX7_isWithin : ByteArray := prog_1_method_26_code
def yX7_isWithin : MethodName := ⟨RX7, "isWithin", "(III)Z"⟩
abbrev cX7_isProgram : ByteArray := prog_1_method_27_code
def yX7_isProgram : MethodName := ⟨RX7, "isProgram", "(I)Z"⟩
abbrev cX7_isCell : ByteArray := prog_1_method_28_code
def yX7_isCell : MethodName := ⟨RX7, "isCell", "(I)Z"⟩
abbrev cX7_isInput : ByteArray := prog_1_method_29_code
def yX7_isInput : MethodName := ⟨RX7, "isInput", "(II)Z"⟩
def RX8 : String := "PairedStepsModel"
def TX8 : u_T := fun k => match k with
  | _ => ("", "", "", false)
def tyX8 : Nat → FieldType := fun k => match k with
  | _ => .int
abbrev wsX80 : List Cond := u_ws RX8 TX8 0
theorem nmX8 : ∀ a, a < 0 → ∀ b, b < 0 → a ≠ b → (TX8 a).2.1 ≠ (TX8 b).2.1 := by decide +kernel
theorem tyX8_ok : ∀ k, k < 0 → parseFieldDescriptor (TX8 k).2.2.1 = some (tyX8 k) := by decide +kernel
def RL : String := "PairedStepsLaw"
abbrev cL_cell : ByteArray := method_2_code
def yL_cell : MethodName := ⟨RL, "cell", "([II)I"⟩
abbrev cL_low : ByteArray := method_3_code
def yL_low : MethodName := ⟨RL, "low", "(II)I"⟩
abbrev cL_near : ByteArray := method_4_code
def yL_near : MethodName := ⟨RL, "near", "(II)I"⟩
abbrev cL_trace : ByteArray := method_5_code
def yL_trace : MethodName := ⟨RL, "trace", "(LPairedSteps;)J"⟩
abbrev cL_programFits : ByteArray := method_6_code
def yL_programFits : MethodName := ⟨RL, "programFits", "(LPairedSteps;I)Z"⟩
abbrev cL_runFits : ByteArray := method_7_code
def yL_runFits : MethodName := ⟨RL, "runFits", "(LPairedSteps;III)Z"⟩
abbrev cL_kept : ByteArray := method_8_code
def yL_kept : MethodName := ⟨RL, "kept", "(LPairedSteps;IIIZ)I"⟩
abbrev cL_least : ByteArray := method_9_code
def yL_least : MethodName := ⟨RL, "least", "(II)I"⟩
abbrev cL_pairsFit : ByteArray := method_10_code
def yL_pairsFit : MethodName := ⟨RL, "pairsFit", "(LPairedSteps;II)Z"⟩
abbrev cL_differs : ByteArray := method_11_code
def yL_differs : MethodName := ⟨RL, "differs", "(LPairedSteps;II)Z"⟩
abbrev cL_agreesOn : ByteArray := method_12_code
def yL_agreesOn : MethodName := ⟨RL, "agreesOn", "(LPairedSteps;II)Z"⟩
abbrev cL_agreeFits : ByteArray := method_13_code
def yL_agreeFits : MethodName := ⟨RL, "agreeFits", "(LPairedSteps;I)Z"⟩
abbrev cL_fits : ByteArray := method_14_code
def yL_fits : MethodName := ⟨RL, "fits", "(LPairedSteps;I)Z"⟩
abbrev cL_types : ByteArray := method_15_code
def yL_types : MethodName := ⟨RL, "types", "(LPairedSteps;IIIIII)V"⟩
abbrev cL_reads : ByteArray := method_16_code
def yL_reads : MethodName := ⟨RL, "reads", "(LPairedSteps;II)I"⟩
abbrev cL_goes : ByteArray := method_17_code
def yL_goes : MethodName := ⟨RL, "goes", "(LPairedSteps;II)I"⟩
abbrev cL_law : ByteArray := code
def yL_law : MethodName := ⟨RL, "law", "([I)Z"⟩
abbrev vwCl : List vw_C := [(RX0, TX0, 3), (RX1, TX1, 10), (RX2, TX2, 3), (RX3, TX3, 6), (RX4, TX4, 2), (RX5, TX5, 2), (RX6, TX6, 9), (RX7, TX7, 8)]
