-- ===== PART A: goes FIRST, ahead of the names: the tables' words, and 'selects' of the private methods out of them =====
/-- a private method of a class that the tables say can be made, by its rows of tables_1 -/
def lw_okq (q : MethodName × Nat) : Prop := (q.1.cls ≠ "java/lang/invoke/MethodHandle" ∧ q.1.cls ≠ "java/lang/invoke/VarHandle") ∧ Cond.instantiable q.1.cls q.2 ∈ tables_1 ∧ Cond.privateMethod q.1 ∈ tables_1 ∧ Cond.instanceMethod q.1 ∈ tables_1
theorem lw_p0 : lw_okq (⟨"PairedSteps$Reader", "nextSign", "()I"⟩, 6) := ⟨⟨by decide +kernel, by decide +kernel⟩, List.mem_of_getElem? (i := 76) (by decide +kernel), List.mem_of_getElem? (i := 256) (by decide +kernel), List.mem_of_getElem? (i := 257) (by decide +kernel)⟩
theorem lw_p1 : lw_okq (⟨"PairedSteps$Reader", "awaitedSign", "()I"⟩, 6) := ⟨⟨by decide +kernel, by decide +kernel⟩, List.mem_of_getElem? (i := 76) (by decide +kernel), List.mem_of_getElem? (i := 267) (by decide +kernel), List.mem_of_getElem? (i := 268) (by decide +kernel)⟩
theorem lw_p2 : lw_okq (⟨"PairedSteps$Reader", "readStatement", "(I)Z"⟩, 6) := ⟨⟨by decide +kernel, by decide +kernel⟩, List.mem_of_getElem? (i := 76) (by decide +kernel), List.mem_of_getElem? (i := 272) (by decide +kernel), List.mem_of_getElem? (i := 273) (by decide +kernel)⟩
theorem lw_p3 : lw_okq (⟨"PairedSteps$Reader", "readTell", "()Z"⟩, 6) := ⟨⟨by decide +kernel, by decide +kernel⟩, List.mem_of_getElem? (i := 76) (by decide +kernel), List.mem_of_getElem? (i := 280) (by decide +kernel), List.mem_of_getElem? (i := 281) (by decide +kernel)⟩
theorem lw_p4 : lw_okq (⟨"PairedSteps$Reader", "takeCell", "()I"⟩, 6) := ⟨⟨by decide +kernel, by decide +kernel⟩, List.mem_of_getElem? (i := 76) (by decide +kernel), List.mem_of_getElem? (i := 284) (by decide +kernel), List.mem_of_getElem? (i := 285) (by decide +kernel)⟩
theorem lw_p5 : lw_okq (⟨"PairedSteps$Reader", "take", "(I)Z"⟩, 6) := ⟨⟨by decide +kernel, by decide +kernel⟩, List.mem_of_getElem? (i := 76) (by decide +kernel), List.mem_of_getElem? (i := 291) (by decide +kernel), List.mem_of_getElem? (i := 292) (by decide +kernel)⟩
theorem lw_p6 : lw_okq (⟨"PairedSteps$Reader", "innermost", "()I"⟩, 6) := ⟨⟨by decide +kernel, by decide +kernel⟩, List.mem_of_getElem? (i := 76) (by decide +kernel), List.mem_of_getElem? (i := 295) (by decide +kernel), List.mem_of_getElem? (i := 296) (by decide +kernel)⟩
theorem lw_p7 : lw_okq (⟨"PairedSteps$Reader", "readOpening", "(II)Z"⟩, 6) := ⟨⟨by decide +kernel, by decide +kernel⟩, List.mem_of_getElem? (i := 76) (by decide +kernel), List.mem_of_getElem? (i := 304) (by decide +kernel), List.mem_of_getElem? (i := 305) (by decide +kernel)⟩
theorem lw_p8 : lw_okq (⟨"PairedSteps$Reader", "readSetting", "()Z"⟩, 6) := ⟨⟨by decide +kernel, by decide +kernel⟩, List.mem_of_getElem? (i := 76) (by decide +kernel), List.mem_of_getElem? (i := 308) (by decide +kernel), List.mem_of_getElem? (i := 309) (by decide +kernel)⟩
theorem lw_p9 : lw_okq (⟨"PairedSteps$Reader", "takeTerm", "()I"⟩, 6) := ⟨⟨by decide +kernel, by decide +kernel⟩, List.mem_of_getElem? (i := 76) (by decide +kernel), List.mem_of_getElem? (i := 312) (by decide +kernel), List.mem_of_getElem? (i := 313) (by decide +kernel)⟩
theorem lw_p10 : lw_okq (⟨"PairedSteps$Reader", "takeNumber", "()I"⟩, 6) := ⟨⟨by decide +kernel, by decide +kernel⟩, List.mem_of_getElem? (i := 76) (by decide +kernel), List.mem_of_getElem? (i := 319) (by decide +kernel), List.mem_of_getElem? (i := 320) (by decide +kernel)⟩
theorem lw_p11 : lw_okq (⟨"PairedSteps$Reader", "takeOperator", "()I"⟩, 6) := ⟨⟨by decide +kernel, by decide +kernel⟩, List.mem_of_getElem? (i := 76) (by decide +kernel), List.mem_of_getElem? (i := 323) (by decide +kernel), List.mem_of_getElem? (i := 324) (by decide +kernel)⟩
theorem lw_p12 : lw_okq (⟨"PairedSteps$Listing", "followerOf", "(I)I"⟩, 10) := ⟨⟨by decide +kernel, by decide +kernel⟩, List.mem_of_getElem? (i := 36) (by decide +kernel), List.mem_of_getElem? (i := 339) (by decide +kernel), List.mem_of_getElem? (i := 340) (by decide +kernel)⟩
theorem lw_p13 : lw_okq (⟨"PairedSteps$Listing", "item", "([II)I"⟩, 10) := ⟨⟨by decide +kernel, by decide +kernel⟩, List.mem_of_getElem? (i := 36) (by decide +kernel), List.mem_of_getElem? (i := 343) (by decide +kernel), List.mem_of_getElem? (i := 344) (by decide +kernel)⟩
theorem lw_p14 : lw_okq (⟨"PairedSteps$Reader", "goOn", "(I)V"⟩, 6) := ⟨⟨by decide +kernel, by decide +kernel⟩, List.mem_of_getElem? (i := 76) (by decide +kernel), List.mem_of_getElem? (i := 347) (by decide +kernel), List.mem_of_getElem? (i := 348) (by decide +kernel)⟩
theorem lw_p15 : lw_okq (⟨"PairedSteps$History", "dropOldest", "()V"⟩, 3) := ⟨⟨by decide +kernel, by decide +kernel⟩, List.mem_of_getElem? (i := 102) (by decide +kernel), List.mem_of_getElem? (i := 363) (by decide +kernel), List.mem_of_getElem? (i := 364) (by decide +kernel)⟩
def lw_privs_1 : List (MethodName × Nat) := [(⟨"PairedSteps$Reader", "nextSign", "()I"⟩, 6), (⟨"PairedSteps$Reader", "awaitedSign", "()I"⟩, 6), (⟨"PairedSteps$Reader", "readStatement", "(I)Z"⟩, 6), (⟨"PairedSteps$Reader", "readTell", "()Z"⟩, 6), (⟨"PairedSteps$Reader", "takeCell", "()I"⟩, 6), (⟨"PairedSteps$Reader", "take", "(I)Z"⟩, 6), (⟨"PairedSteps$Reader", "innermost", "()I"⟩, 6), (⟨"PairedSteps$Reader", "readOpening", "(II)Z"⟩, 6), (⟨"PairedSteps$Reader", "readSetting", "()Z"⟩, 6), (⟨"PairedSteps$Reader", "takeTerm", "()I"⟩, 6), (⟨"PairedSteps$Reader", "takeNumber", "()I"⟩, 6), (⟨"PairedSteps$Reader", "takeOperator", "()I"⟩, 6), (⟨"PairedSteps$Listing", "followerOf", "(I)I"⟩, 10), (⟨"PairedSteps$Listing", "item", "([II)I"⟩, 10), (⟨"PairedSteps$Reader", "goOn", "(I)V"⟩, 6), (⟨"PairedSteps$History", "dropOldest", "()V"⟩, 3)]
theorem lw_r1 : ∀ q ∈ lw_privs_1, lw_okq q := List.forall_mem_cons.mpr ⟨lw_p0, List.forall_mem_cons.mpr ⟨lw_p1, List.forall_mem_cons.mpr ⟨lw_p2, List.forall_mem_cons.mpr ⟨lw_p3, List.forall_mem_cons.mpr ⟨lw_p4, List.forall_mem_cons.mpr ⟨lw_p5, List.forall_mem_cons.mpr ⟨lw_p6, List.forall_mem_cons.mpr ⟨lw_p7, List.forall_mem_cons.mpr ⟨lw_p8, List.forall_mem_cons.mpr ⟨lw_p9, List.forall_mem_cons.mpr ⟨lw_p10, List.forall_mem_cons.mpr ⟨lw_p11, List.forall_mem_cons.mpr ⟨lw_p12, List.forall_mem_cons.mpr ⟨lw_p13, List.forall_mem_cons.mpr ⟨lw_p14, List.forall_mem_cons.mpr ⟨lw_p15, fun _ h => absurd h List.not_mem_nil⟩⟩⟩⟩⟩⟩⟩⟩⟩⟩⟩⟩⟩⟩⟩⟩
theorem lw_p16 : lw_okq (⟨"PairedSteps", "listingOf", "(I)LPairedSteps$Listing;"⟩, 8) := ⟨⟨by decide +kernel, by decide +kernel⟩, List.mem_of_getElem? (i := 13) (by decide +kernel), List.mem_of_getElem? (i := 375) (by decide +kernel), List.mem_of_getElem? (i := 376) (by decide +kernel)⟩
theorem lw_p17 : lw_okq (⟨"PairedSteps$Listing", "moveDown", "(II)V"⟩, 10) := ⟨⟨by decide +kernel, by decide +kernel⟩, List.mem_of_getElem? (i := 36) (by decide +kernel), List.mem_of_getElem? (i := 397) (by decide +kernel), List.mem_of_getElem? (i := 398) (by decide +kernel)⟩
theorem lw_p18 : lw_okq (⟨"PairedSteps$Listing", "depthOf", "(I)I"⟩, 10) := ⟨⟨by decide +kernel, by decide +kernel⟩, List.mem_of_getElem? (i := 36) (by decide +kernel), List.mem_of_getElem? (i := 429) (by decide +kernel), List.mem_of_getElem? (i := 430) (by decide +kernel)⟩
theorem lw_p19 : lw_okq (⟨"PairedSteps", "traceOf", "(III)LPairedSteps$Trace;"⟩, 8) := ⟨⟨by decide +kernel, by decide +kernel⟩, List.mem_of_getElem? (i := 13) (by decide +kernel), List.mem_of_getElem? (i := 447) (by decide +kernel), List.mem_of_getElem? (i := 448) (by decide +kernel)⟩
theorem lw_p20 : lw_okq (⟨"PairedSteps$Trace", "begin", "(II)V"⟩, 9) := ⟨⟨by decide +kernel, by decide +kernel⟩, List.mem_of_getElem? (i := 128) (by decide +kernel), List.mem_of_getElem? (i := 455) (by decide +kernel), List.mem_of_getElem? (i := 456) (by decide +kernel)⟩
theorem lw_p21 : lw_okq (⟨"PairedSteps$Trace", "stepFrom", "(LPairedSteps$Listing;I)I"⟩, 9) := ⟨⟨by decide +kernel, by decide +kernel⟩, List.mem_of_getElem? (i := 128) (by decide +kernel), List.mem_of_getElem? (i := 464) (by decide +kernel), List.mem_of_getElem? (i := 465) (by decide +kernel)⟩
theorem lw_p22 : lw_okq (⟨"PairedSteps$Trace", "resultOf", "(LPairedSteps$Listing;I)I"⟩, 9) := ⟨⟨by decide +kernel, by decide +kernel⟩, List.mem_of_getElem? (i := 128) (by decide +kernel), List.mem_of_getElem? (i := 481) (by decide +kernel), List.mem_of_getElem? (i := 482) (by decide +kernel)⟩
theorem lw_p23 : lw_okq (⟨"PairedSteps$Trace", "termValue", "(I)I"⟩, 9) := ⟨⟨by decide +kernel, by decide +kernel⟩, List.mem_of_getElem? (i := 128) (by decide +kernel), List.mem_of_getElem? (i := 489) (by decide +kernel), List.mem_of_getElem? (i := 490) (by decide +kernel)⟩
theorem lw_p24 : lw_okq (⟨"PairedSteps$Trace", "setCell", "(II)V"⟩, 9) := ⟨⟨by decide +kernel, by decide +kernel⟩, List.mem_of_getElem? (i := 128) (by decide +kernel), List.mem_of_getElem? (i := 506) (by decide +kernel), List.mem_of_getElem? (i := 507) (by decide +kernel)⟩
theorem lw_p25 : lw_okq (⟨"PairedSteps$Trace", "keepMark", "()V"⟩, 9) := ⟨⟨by decide +kernel, by decide +kernel⟩, List.mem_of_getElem? (i := 128) (by decide +kernel), List.mem_of_getElem? (i := 520) (by decide +kernel), List.mem_of_getElem? (i := 521) (by decide +kernel)⟩
theorem lw_p26 : lw_okq (⟨"PairedSteps$Trace", "countLook", "(IZ)V"⟩, 9) := ⟨⟨by decide +kernel, by decide +kernel⟩, List.mem_of_getElem? (i := 128) (by decide +kernel), List.mem_of_getElem? (i := 525) (by decide +kernel), List.mem_of_getElem? (i := 526) (by decide +kernel)⟩
theorem lw_p27 : lw_okq (⟨"PairedSteps$Sides", "leadAt", "(I)I"⟩, 2) := ⟨⟨by decide +kernel, by decide +kernel⟩, List.mem_of_getElem? (i := 122) (by decide +kernel), List.mem_of_getElem? (i := 582) (by decide +kernel), List.mem_of_getElem? (i := 583) (by decide +kernel)⟩
theorem lw_p28 : lw_okq (⟨"PairedSteps$Sides", "isEven", "(I)Z"⟩, 2) := ⟨⟨by decide +kernel, by decide +kernel⟩, List.mem_of_getElem? (i := 122) (by decide +kernel), List.mem_of_getElem? (i := 602) (by decide +kernel), List.mem_of_getElem? (i := 603) (by decide +kernel)⟩
theorem lw_p29 : lw_okq (⟨"PairedSteps$Sides", "isAlwaysSame", "(II)Z"⟩, 2) := ⟨⟨by decide +kernel, by decide +kernel⟩, List.mem_of_getElem? (i := 122) (by decide +kernel), List.mem_of_getElem? (i := 615) (by decide +kernel), List.mem_of_getElem? (i := 616) (by decide +kernel)⟩
theorem lw_p30 : lw_okq (⟨"PairedSteps", "keepOutputsOf", "(LPairedSteps$Listing;)V"⟩, 8) := ⟨⟨by decide +kernel, by decide +kernel⟩, List.mem_of_getElem? (i := 13) (by decide +kernel), List.mem_of_getElem? (i := 655) (by decide +kernel), List.mem_of_getElem? (i := 656) (by decide +kernel)⟩
theorem lw_p31 : lw_okq (⟨"PairedSteps", "putsOutAsBefore", "(LPairedSteps$Listing;)Z"⟩, 8) := ⟨⟨by decide +kernel, by decide +kernel⟩, List.mem_of_getElem? (i := 13) (by decide +kernel), List.mem_of_getElem? (i := 664) (by decide +kernel), List.mem_of_getElem? (i := 665) (by decide +kernel)⟩
def lw_privs_2 : List (MethodName × Nat) := [(⟨"PairedSteps", "listingOf", "(I)LPairedSteps$Listing;"⟩, 8), (⟨"PairedSteps$Listing", "moveDown", "(II)V"⟩, 10), (⟨"PairedSteps$Listing", "depthOf", "(I)I"⟩, 10), (⟨"PairedSteps", "traceOf", "(III)LPairedSteps$Trace;"⟩, 8), (⟨"PairedSteps$Trace", "begin", "(II)V"⟩, 9), (⟨"PairedSteps$Trace", "stepFrom", "(LPairedSteps$Listing;I)I"⟩, 9), (⟨"PairedSteps$Trace", "resultOf", "(LPairedSteps$Listing;I)I"⟩, 9), (⟨"PairedSteps$Trace", "termValue", "(I)I"⟩, 9), (⟨"PairedSteps$Trace", "setCell", "(II)V"⟩, 9), (⟨"PairedSteps$Trace", "keepMark", "()V"⟩, 9), (⟨"PairedSteps$Trace", "countLook", "(IZ)V"⟩, 9), (⟨"PairedSteps$Sides", "leadAt", "(I)I"⟩, 2), (⟨"PairedSteps$Sides", "isEven", "(I)Z"⟩, 2), (⟨"PairedSteps$Sides", "isAlwaysSame", "(II)Z"⟩, 2), (⟨"PairedSteps", "keepOutputsOf", "(LPairedSteps$Listing;)V"⟩, 8), (⟨"PairedSteps", "putsOutAsBefore", "(LPairedSteps$Listing;)Z"⟩, 8)]
theorem lw_r2 : ∀ q ∈ lw_privs_2, lw_okq q := List.forall_mem_cons.mpr ⟨lw_p16, List.forall_mem_cons.mpr ⟨lw_p17, List.forall_mem_cons.mpr ⟨lw_p18, List.forall_mem_cons.mpr ⟨lw_p19, List.forall_mem_cons.mpr ⟨lw_p20, List.forall_mem_cons.mpr ⟨lw_p21, List.forall_mem_cons.mpr ⟨lw_p22, List.forall_mem_cons.mpr ⟨lw_p23, List.forall_mem_cons.mpr ⟨lw_p24, List.forall_mem_cons.mpr ⟨lw_p25, List.forall_mem_cons.mpr ⟨lw_p26, List.forall_mem_cons.mpr ⟨lw_p27, List.forall_mem_cons.mpr ⟨lw_p28, List.forall_mem_cons.mpr ⟨lw_p29, List.forall_mem_cons.mpr ⟨lw_p30, List.forall_mem_cons.mpr ⟨lw_p31, fun _ h => absurd h List.not_mem_nil⟩⟩⟩⟩⟩⟩⟩⟩⟩⟩⟩⟩⟩⟩⟩⟩
theorem lw_p32 : lw_okq (⟨"PairedStepsModel", "readsAll", "()Z"⟩, 20) := ⟨⟨by decide +kernel, by decide +kernel⟩, List.mem_of_getElem? (i := 669) (by decide +kernel), List.mem_of_getElem? (i := 758) (by decide +kernel), List.mem_of_getElem? (i := 759) (by decide +kernel)⟩
theorem lw_p33 : lw_okq (⟨"PairedStepsModel", "here", "()I"⟩, 20) := ⟨⟨by decide +kernel, by decide +kernel⟩, List.mem_of_getElem? (i := 669) (by decide +kernel), List.mem_of_getElem? (i := 762) (by decide +kernel), List.mem_of_getElem? (i := 763) (by decide +kernel)⟩
theorem lw_p34 : lw_okq (⟨"PairedStepsModel", "readsStatement", "(II)Z"⟩, 20) := ⟨⟨by decide +kernel, by decide +kernel⟩, List.mem_of_getElem? (i := 669) (by decide +kernel), List.mem_of_getElem? (i := 772) (by decide +kernel), List.mem_of_getElem? (i := 773) (by decide +kernel)⟩
theorem lw_p35 : lw_okq (⟨"PairedStepsModel", "put", "(III)V"⟩, 20) := ⟨⟨by decide +kernel, by decide +kernel⟩, List.mem_of_getElem? (i := 669) (by decide +kernel), List.mem_of_getElem? (i := 776) (by decide +kernel), List.mem_of_getElem? (i := 777) (by decide +kernel)⟩
theorem lw_p36 : lw_okq (⟨"PairedStepsModel", "readsSetting", "(I)Z"⟩, 20) := ⟨⟨by decide +kernel, by decide +kernel⟩, List.mem_of_getElem? (i := 669) (by decide +kernel), List.mem_of_getElem? (i := 780) (by decide +kernel), List.mem_of_getElem? (i := 781) (by decide +kernel)⟩
theorem lw_p37 : lw_okq (⟨"PairedStepsModel", "readsCell", "(I)Z"⟩, 20) := ⟨⟨by decide +kernel, by decide +kernel⟩, List.mem_of_getElem? (i := 669) (by decide +kernel), List.mem_of_getElem? (i := 784) (by decide +kernel), List.mem_of_getElem? (i := 785) (by decide +kernel)⟩
theorem lw_p38 : lw_okq (⟨"PairedStepsModel", "passes", "(I)Z"⟩, 20) := ⟨⟨by decide +kernel, by decide +kernel⟩, List.mem_of_getElem? (i := 669) (by decide +kernel), List.mem_of_getElem? (i := 788) (by decide +kernel), List.mem_of_getElem? (i := 789) (by decide +kernel)⟩
theorem lw_p39 : lw_okq (⟨"PairedStepsModel", "readsTerm", "(II)Z"⟩, 20) := ⟨⟨by decide +kernel, by decide +kernel⟩, List.mem_of_getElem? (i := 669) (by decide +kernel), List.mem_of_getElem? (i := 792) (by decide +kernel), List.mem_of_getElem? (i := 793) (by decide +kernel)⟩
theorem lw_p40 : lw_okq (⟨"PairedStepsModel", "saves", "()V"⟩, 20) := ⟨⟨by decide +kernel, by decide +kernel⟩, List.mem_of_getElem? (i := 669) (by decide +kernel), List.mem_of_getElem? (i := 796) (by decide +kernel), List.mem_of_getElem? (i := 797) (by decide +kernel)⟩
theorem lw_p41 : lw_okq (⟨"PairedStepsModel", "lays", "(I)V"⟩, 20) := ⟨⟨by decide +kernel, by decide +kernel⟩, List.mem_of_getElem? (i := 669) (by decide +kernel), List.mem_of_getElem? (i := 800) (by decide +kernel), List.mem_of_getElem? (i := 801) (by decide +kernel)⟩
theorem lw_p42 : lw_okq (⟨"PairedStepsModel", "takes", "(I)V"⟩, 20) := ⟨⟨by decide +kernel, by decide +kernel⟩, List.mem_of_getElem? (i := 669) (by decide +kernel), List.mem_of_getElem? (i := 808) (by decide +kernel), List.mem_of_getElem? (i := 809) (by decide +kernel)⟩
theorem lw_p43 : lw_okq (⟨"PairedStepsModel", "isStatement", "(II)Z"⟩, 20) := ⟨⟨by decide +kernel, by decide +kernel⟩, List.mem_of_getElem? (i := 669) (by decide +kernel), List.mem_of_getElem? (i := 820) (by decide +kernel), List.mem_of_getElem? (i := 821) (by decide +kernel)⟩
theorem lw_p44 : lw_okq (⟨"PairedStepsModel", "cuts", "(I)V"⟩, 20) := ⟨⟨by decide +kernel, by decide +kernel⟩, List.mem_of_getElem? (i := 669) (by decide +kernel), List.mem_of_getElem? (i := 824) (by decide +kernel), List.mem_of_getElem? (i := 825) (by decide +kernel)⟩
theorem lw_p45 : lw_okq (⟨"PairedStepsModel", "sizeOf", "(I)I"⟩, 20) := ⟨⟨by decide +kernel, by decide +kernel⟩, List.mem_of_getElem? (i := 669) (by decide +kernel), List.mem_of_getElem? (i := 828) (by decide +kernel), List.mem_of_getElem? (i := 829) (by decide +kernel)⟩
theorem lw_p46 : lw_okq (⟨"PairedStepsModel", "of", "(II)I"⟩, 20) := ⟨⟨by decide +kernel, by decide +kernel⟩, List.mem_of_getElem? (i := 669) (by decide +kernel), List.mem_of_getElem? (i := 832) (by decide +kernel), List.mem_of_getElem? (i := 833) (by decide +kernel)⟩
theorem lw_p47 : lw_okq (⟨"PairedStepsModel", "depthAll", "()I"⟩, 20) := ⟨⟨by decide +kernel, by decide +kernel⟩, List.mem_of_getElem? (i := 669) (by decide +kernel), List.mem_of_getElem? (i := 844) (by decide +kernel), List.mem_of_getElem? (i := 845) (by decide +kernel)⟩
def lw_privs_3 : List (MethodName × Nat) := [(⟨"PairedStepsModel", "readsAll", "()Z"⟩, 20), (⟨"PairedStepsModel", "here", "()I"⟩, 20), (⟨"PairedStepsModel", "readsStatement", "(II)Z"⟩, 20), (⟨"PairedStepsModel", "put", "(III)V"⟩, 20), (⟨"PairedStepsModel", "readsSetting", "(I)Z"⟩, 20), (⟨"PairedStepsModel", "readsCell", "(I)Z"⟩, 20), (⟨"PairedStepsModel", "passes", "(I)Z"⟩, 20), (⟨"PairedStepsModel", "readsTerm", "(II)Z"⟩, 20), (⟨"PairedStepsModel", "saves", "()V"⟩, 20), (⟨"PairedStepsModel", "lays", "(I)V"⟩, 20), (⟨"PairedStepsModel", "takes", "(I)V"⟩, 20), (⟨"PairedStepsModel", "isStatement", "(II)Z"⟩, 20), (⟨"PairedStepsModel", "cuts", "(I)V"⟩, 20), (⟨"PairedStepsModel", "sizeOf", "(I)I"⟩, 20), (⟨"PairedStepsModel", "of", "(II)I"⟩, 20), (⟨"PairedStepsModel", "depthAll", "()I"⟩, 20)]
theorem lw_r3 : ∀ q ∈ lw_privs_3, lw_okq q := List.forall_mem_cons.mpr ⟨lw_p32, List.forall_mem_cons.mpr ⟨lw_p33, List.forall_mem_cons.mpr ⟨lw_p34, List.forall_mem_cons.mpr ⟨lw_p35, List.forall_mem_cons.mpr ⟨lw_p36, List.forall_mem_cons.mpr ⟨lw_p37, List.forall_mem_cons.mpr ⟨lw_p38, List.forall_mem_cons.mpr ⟨lw_p39, List.forall_mem_cons.mpr ⟨lw_p40, List.forall_mem_cons.mpr ⟨lw_p41, List.forall_mem_cons.mpr ⟨lw_p42, List.forall_mem_cons.mpr ⟨lw_p43, List.forall_mem_cons.mpr ⟨lw_p44, List.forall_mem_cons.mpr ⟨lw_p45, List.forall_mem_cons.mpr ⟨lw_p46, List.forall_mem_cons.mpr ⟨lw_p47, fun _ h => absurd h List.not_mem_nil⟩⟩⟩⟩⟩⟩⟩⟩⟩⟩⟩⟩⟩⟩⟩⟩
theorem lw_p48 : lw_okq (⟨"PairedStepsModel", "canSet", "()I"⟩, 20) := ⟨⟨by decide +kernel, by decide +kernel⟩, List.mem_of_getElem? (i := 669) (by decide +kernel), List.mem_of_getElem? (i := 848) (by decide +kernel), List.mem_of_getElem? (i := 849) (by decide +kernel)⟩
theorem lw_p49 : lw_okq (⟨"PairedStepsModel", "ofKind", "(I)I"⟩, 20) := ⟨⟨by decide +kernel, by decide +kernel⟩, List.mem_of_getElem? (i := 669) (by decide +kernel), List.mem_of_getElem? (i := 852) (by decide +kernel), List.mem_of_getElem? (i := 853) (by decide +kernel)⟩
theorem lw_p50 : lw_okq (⟨"PairedStepsModel", "runsOne", "(III)V"⟩, 20) := ⟨⟨by decide +kernel, by decide +kernel⟩, List.mem_of_getElem? (i := 669) (by decide +kernel), List.mem_of_getElem? (i := 863) (by decide +kernel), List.mem_of_getElem? (i := 864) (by decide +kernel)⟩
theorem lw_p51 : lw_okq (⟨"PairedStepsModel", "runs", "(III)V"⟩, 20) := ⟨⟨by decide +kernel, by decide +kernel⟩, List.mem_of_getElem? (i := 669) (by decide +kernel), List.mem_of_getElem? (i := 867) (by decide +kernel), List.mem_of_getElem? (i := 868) (by decide +kernel)⟩
theorem lw_p52 : lw_okq (⟨"PairedStepsModel", "roundOf", "(II)V"⟩, 20) := ⟨⟨by decide +kernel, by decide +kernel⟩, List.mem_of_getElem? (i := 669) (by decide +kernel), List.mem_of_getElem? (i := 871) (by decide +kernel), List.mem_of_getElem? (i := 872) (by decide +kernel)⟩
theorem lw_p53 : lw_okq (⟨"PairedStepsModel", "does", "(III)V"⟩, 20) := ⟨⟨by decide +kernel, by decide +kernel⟩, List.mem_of_getElem? (i := 669) (by decide +kernel), List.mem_of_getElem? (i := 875) (by decide +kernel), List.mem_of_getElem? (i := 876) (by decide +kernel)⟩
theorem lw_p54 : lw_okq (⟨"PairedStepsModel", "sets", "(II)V"⟩, 20) := ⟨⟨by decide +kernel, by decide +kernel⟩, List.mem_of_getElem? (i := 669) (by decide +kernel), List.mem_of_getElem? (i := 879) (by decide +kernel), List.mem_of_getElem? (i := 880) (by decide +kernel)⟩
theorem lw_p55 : lw_okq (⟨"PairedStepsModel", "term", "(II)I"⟩, 20) := ⟨⟨by decide +kernel, by decide +kernel⟩, List.mem_of_getElem? (i := 669) (by decide +kernel), List.mem_of_getElem? (i := 883) (by decide +kernel), List.mem_of_getElem? (i := 884) (by decide +kernel)⟩
theorem lw_p56 : lw_okq (⟨"PairedStepsModel", "tellsCell", "(II)V"⟩, 20) := ⟨⟨by decide +kernel, by decide +kernel⟩, List.mem_of_getElem? (i := 669) (by decide +kernel), List.mem_of_getElem? (i := 890) (by decide +kernel), List.mem_of_getElem? (i := 891) (by decide +kernel)⟩
theorem lw_p57 : lw_okq (⟨"PairedStepsModel", "marks", "(I)V"⟩, 20) := ⟨⟨by decide +kernel, by decide +kernel⟩, List.mem_of_getElem? (i := 669) (by decide +kernel), List.mem_of_getElem? (i := 894) (by decide +kernel), List.mem_of_getElem? (i := 895) (by decide +kernel)⟩
theorem lw_p58 : lw_okq (⟨"PairedStepsModel", "runsBoth", "(II)V"⟩, 20) := ⟨⟨by decide +kernel, by decide +kernel⟩, List.mem_of_getElem? (i := 669) (by decide +kernel), List.mem_of_getElem? (i := 916) (by decide +kernel), List.mem_of_getElem? (i := 917) (by decide +kernel)⟩
theorem lw_p59 : lw_okq (⟨"PairedStepsModel", "pairMany", "()I"⟩, 20) := ⟨⟨by decide +kernel, by decide +kernel⟩, List.mem_of_getElem? (i := 669) (by decide +kernel), List.mem_of_getElem? (i := 920) (by decide +kernel), List.mem_of_getElem? (i := 921) (by decide +kernel)⟩
theorem lw_p60 : lw_okq (⟨"PairedStepsModel", "allEqual", "()I"⟩, 20) := ⟨⟨by decide +kernel, by decide +kernel⟩, List.mem_of_getElem? (i := 669) (by decide +kernel), List.mem_of_getElem? (i := 924) (by decide +kernel), List.mem_of_getElem? (i := 925) (by decide +kernel)⟩
theorem lw_p61 : lw_okq (⟨"PairedStepsModel", "isEqual", "(III)Z"⟩, 20) := ⟨⟨by decide +kernel, by decide +kernel⟩, List.mem_of_getElem? (i := 669) (by decide +kernel), List.mem_of_getElem? (i := 928) (by decide +kernel), List.mem_of_getElem? (i := 929) (by decide +kernel)⟩
theorem lw_p62 : lw_okq (⟨"PairedStepsModel", "greatestLead", "()I"⟩, 20) := ⟨⟨by decide +kernel, by decide +kernel⟩, List.mem_of_getElem? (i := 669) (by decide +kernel), List.mem_of_getElem? (i := 932) (by decide +kernel), List.mem_of_getElem? (i := 933) (by decide +kernel)⟩
theorem lw_p63 : lw_okq (⟨"PairedStepsModel", "leadOf", "(I)I"⟩, 20) := ⟨⟨by decide +kernel, by decide +kernel⟩, List.mem_of_getElem? (i := 669) (by decide +kernel), List.mem_of_getElem? (i := 936) (by decide +kernel), List.mem_of_getElem? (i := 937) (by decide +kernel)⟩
def lw_privs_4 : List (MethodName × Nat) := [(⟨"PairedStepsModel", "canSet", "()I"⟩, 20), (⟨"PairedStepsModel", "ofKind", "(I)I"⟩, 20), (⟨"PairedStepsModel", "runsOne", "(III)V"⟩, 20), (⟨"PairedStepsModel", "runs", "(III)V"⟩, 20), (⟨"PairedStepsModel", "roundOf", "(II)V"⟩, 20), (⟨"PairedStepsModel", "does", "(III)V"⟩, 20), (⟨"PairedStepsModel", "sets", "(II)V"⟩, 20), (⟨"PairedStepsModel", "term", "(II)I"⟩, 20), (⟨"PairedStepsModel", "tellsCell", "(II)V"⟩, 20), (⟨"PairedStepsModel", "marks", "(I)V"⟩, 20), (⟨"PairedStepsModel", "runsBoth", "(II)V"⟩, 20), (⟨"PairedStepsModel", "pairMany", "()I"⟩, 20), (⟨"PairedStepsModel", "allEqual", "()I"⟩, 20), (⟨"PairedStepsModel", "isEqual", "(III)Z"⟩, 20), (⟨"PairedStepsModel", "greatestLead", "()I"⟩, 20), (⟨"PairedStepsModel", "leadOf", "(I)I"⟩, 20)]
theorem lw_r4 : ∀ q ∈ lw_privs_4, lw_okq q := List.forall_mem_cons.mpr ⟨lw_p48, List.forall_mem_cons.mpr ⟨lw_p49, List.forall_mem_cons.mpr ⟨lw_p50, List.forall_mem_cons.mpr ⟨lw_p51, List.forall_mem_cons.mpr ⟨lw_p52, List.forall_mem_cons.mpr ⟨lw_p53, List.forall_mem_cons.mpr ⟨lw_p54, List.forall_mem_cons.mpr ⟨lw_p55, List.forall_mem_cons.mpr ⟨lw_p56, List.forall_mem_cons.mpr ⟨lw_p57, List.forall_mem_cons.mpr ⟨lw_p58, List.forall_mem_cons.mpr ⟨lw_p59, List.forall_mem_cons.mpr ⟨lw_p60, List.forall_mem_cons.mpr ⟨lw_p61, List.forall_mem_cons.mpr ⟨lw_p62, List.forall_mem_cons.mpr ⟨lw_p63, fun _ h => absurd h List.not_mem_nil⟩⟩⟩⟩⟩⟩⟩⟩⟩⟩⟩⟩⟩⟩⟩⟩
theorem lw_p64 : lw_okq (⟨"PairedStepsModel", "equalTo", "(I)I"⟩, 20) := ⟨⟨by decide +kernel, by decide +kernel⟩, List.mem_of_getElem? (i := 669) (by decide +kernel), List.mem_of_getElem? (i := 944) (by decide +kernel), List.mem_of_getElem? (i := 945) (by decide +kernel)⟩
theorem lw_p65 : lw_okq (⟨"PairedStepsModel", "firstDifference", "()I"⟩, 20) := ⟨⟨by decide +kernel, by decide +kernel⟩, List.mem_of_getElem? (i := 669) (by decide +kernel), List.mem_of_getElem? (i := 952) (by decide +kernel), List.mem_of_getElem? (i := 953) (by decide +kernel)⟩
theorem lw_p66 : lw_okq (⟨"PairedStepsModel", "agreeOn", "(II)Z"⟩, 20) := ⟨⟨by decide +kernel, by decide +kernel⟩, List.mem_of_getElem? (i := 669) (by decide +kernel), List.mem_of_getElem? (i := 960) (by decide +kernel), List.mem_of_getElem? (i := 961) (by decide +kernel)⟩
theorem lw_p67 : lw_okq (⟨"PairedStepsModel", "keeps", "(I)V"⟩, 20) := ⟨⟨by decide +kernel, by decide +kernel⟩, List.mem_of_getElem? (i := 669) (by decide +kernel), List.mem_of_getElem? (i := 972) (by decide +kernel), List.mem_of_getElem? (i := 973) (by decide +kernel)⟩
theorem lw_p68 : lw_okq (⟨"PairedStepsModel", "isIdle", "(II)Z"⟩, 20) := ⟨⟨by decide +kernel, by decide +kernel⟩, List.mem_of_getElem? (i := 669) (by decide +kernel), List.mem_of_getElem? (i := 976) (by decide +kernel), List.mem_of_getElem? (i := 977) (by decide +kernel)⟩
def lw_privs_5 : List (MethodName × Nat) := [(⟨"PairedStepsModel", "equalTo", "(I)I"⟩, 20), (⟨"PairedStepsModel", "firstDifference", "()I"⟩, 20), (⟨"PairedStepsModel", "agreeOn", "(II)Z"⟩, 20), (⟨"PairedStepsModel", "keeps", "(I)V"⟩, 20), (⟨"PairedStepsModel", "isIdle", "(II)Z"⟩, 20)]
theorem lw_r5 : ∀ q ∈ lw_privs_5, lw_okq q := List.forall_mem_cons.mpr ⟨lw_p64, List.forall_mem_cons.mpr ⟨lw_p65, List.forall_mem_cons.mpr ⟨lw_p66, List.forall_mem_cons.mpr ⟨lw_p67, List.forall_mem_cons.mpr ⟨lw_p68, fun _ h => absurd h List.not_mem_nil⟩⟩⟩⟩⟩
def lw_privs : List (MethodName × Nat) := lw_privs_1 ++ (lw_privs_2 ++ (lw_privs_3 ++ (lw_privs_4 ++ (lw_privs_5))))
def lw_tbl : List Cond := k2_sels lw_privs ++ tables_1
theorem lw_privs_ok : ∀ q ∈ lw_privs, lw_okq q := by
  show ∀ q ∈ lw_privs_1 ++ (lw_privs_2 ++ (lw_privs_3 ++ (lw_privs_4 ++ (lw_privs_5)))), lw_okq q
  exact List.forall_mem_append.mpr ⟨lw_r1, List.forall_mem_append.mpr ⟨lw_r2, List.forall_mem_append.mpr ⟨lw_r3, List.forall_mem_append.mpr ⟨lw_r4, lw_r5⟩⟩⟩⟩


def RX0 : String := "PairedSteps$History"
def TX0 : u_T := fun k => match k with
  | 0 => ("PairedSteps$History", "zeroths", "[LPairedSteps$Listing;", true)
  | 1 => ("PairedSteps$History", "others", "[LPairedSteps$Listing;", true)
  | _ => ("PairedSteps$History", "size", "I", false)
def tyX0 : Nat → FieldType := fun k => match k with
  | 0 => .array (.object "PairedSteps$Listing")
  | 1 => .array (.object "PairedSteps$Listing")
  | _ => .int
abbrev wsX00 : List Cond := u_ws RX0 TX0 3
theorem nmX0 : ∀ a, a < 3 → ∀ b, b < 3 → a ≠ b → (TX0 a).2.1 ≠ (TX0 b).2.1 := by decide +kernel
theorem tyX0_ok : ∀ k, k < 3 → parseFieldDescriptor (TX0 k).2.2.1 = some (tyX0 k) := by decide +kernel
abbrev cX0_init : ByteArray := prog_2_method_1_code
def yX0_init : MethodName := ⟨RX0, "<init>", "()V"⟩
abbrev cX0_push : ByteArray := prog_2_method_2_code
def yX0_push : MethodName := ⟨RX0, "push", "(LPairedSteps$Listing;LPairedSteps$Listing;)V"⟩
abbrev cX0_pop : ByteArray := prog_2_method_3_code
def yX0_pop : MethodName := ⟨RX0, "pop", "(LPairedSteps$Listing;LPairedSteps$Listing;)V"⟩
abbrev cX0_dropOldest : ByteArray := prog_2_method_4_code
def yX0_dropOldest : MethodName := ⟨RX0, "dropOldest", "()V"⟩
def RX1 : String := "PairedSteps$Listing"
def TX1 : u_T := fun k => match k with
  | 0 => ("PairedSteps$Listing", "size", "I", false)
  | 1 => ("PairedSteps$Listing", "kinds", "[I", true)
  | 2 => ("PairedSteps$Listing", "targets", "[I", true)
  | 3 => ("PairedSteps$Listing", "lefts", "[I", true)
  | 4 => ("PairedSteps$Listing", "operators", "[I", true)
  | 5 => ("PairedSteps$Listing", "rights", "[I", true)
  | 6 => ("PairedSteps$Listing", "outers", "[I", true)
  | 7 => ("PairedSteps$Listing", "middles", "[I", true)
  | 8 => ("PairedSteps$Listing", "ends", "[I", true)
  | _ => ("PairedSteps$Listing", "followers", "[I", true)
def tyX1 : Nat → FieldType := fun k => match k with
  | 0 => .int
  | 1 => .array .int
  | 2 => .array .int
  | 3 => .array .int
  | 4 => .array .int
  | 5 => .array .int
  | 6 => .array .int
  | 7 => .array .int
  | 8 => .array .int
  | _ => .array .int
abbrev wsX10 : List Cond := u_ws RX1 TX1 10
theorem nmX1 : ∀ a, a < 10 → ∀ b, b < 10 → a ≠ b → (TX1 a).2.1 ≠ (TX1 b).2.1 := by decide +kernel
theorem tyX1_ok : ∀ k, k < 10 → parseFieldDescriptor (TX1 k).2.2.1 = some (tyX1 k) := by decide +kernel
abbrev cX1_init : ByteArray := prog_3_method_1_code
def yX1_init : MethodName := ⟨RX1, "<init>", "()V"⟩
abbrev cX1_isFull : ByteArray := prog_3_method_2_code
def yX1_isFull : MethodName := ⟨RX1, "isFull", "()Z"⟩
abbrev cX1_holds : ByteArray := prog_3_method_3_code
def yX1_holds : MethodName := ⟨RX1, "holds", "(I)Z"⟩
abbrev cX1_add : ByteArray := prog_3_method_4_code
def yX1_add : MethodName := ⟨RX1, "add", "(III)Z"⟩
abbrev cX1_setTerms : ByteArray := prog_3_method_5_code
def yX1_setTerms : MethodName := ⟨RX1, "setTerms", "(III)V"⟩
abbrev cX1_endFirstPart : ByteArray := prog_3_method_6_code
def yX1_endFirstPart : MethodName := ⟨RX1, "endFirstPart", "(I)V"⟩
abbrev cX1_close : ByteArray := prog_3_method_7_code
def yX1_close : MethodName := ⟨RX1, "close", "(I)V"⟩
abbrev cX1_takeFrom : ByteArray := prog_3_method_8_code
def yX1_takeFrom : MethodName := ⟨RX1, "takeFrom", "(LPairedSteps$Listing;)V"⟩
abbrev cX1_remove : ByteArray := prog_3_method_9_code
def yX1_remove : MethodName := ⟨RX1, "remove", "(I)V"⟩
abbrev cX1_moveDown : ByteArray := prog_3_method_10_code
def yX1_moveDown : MethodName := ⟨RX1, "moveDown", "(II)V"⟩
abbrev cX1_placeWithout : ByteArray := prog_3_method_11_code
def yX1_placeWithout : MethodName := ⟨RX1, "placeWithout", "(III)I"⟩
abbrev cX1_link : ByteArray := prog_3_method_12_code
def yX1_link : MethodName := ⟨RX1, "link", "()V"⟩
abbrev cX1_followerOf : ByteArray := prog_3_method_13_code
def yX1_followerOf : MethodName := ⟨RX1, "followerOf", "(I)I"⟩
abbrev cX1_entered : ByteArray := prog_3_method_14_code
def yX1_entered : MethodName := ⟨RX1, "entered", "(I)I"⟩
abbrev cX1_passed : ByteArray := prog_3_method_15_code
def yX1_passed : MethodName := ⟨RX1, "passed", "(I)I"⟩
abbrev cX1_kindOf : ByteArray := prog_3_method_16_code
def yX1_kindOf : MethodName := ⟨RX1, "kindOf", "(I)I"⟩
abbrev cX1_targetOf : ByteArray := prog_3_method_17_code
def yX1_targetOf : MethodName := ⟨RX1, "targetOf", "(I)I"⟩
abbrev cX1_leftOf : ByteArray := prog_3_method_18_code
def yX1_leftOf : MethodName := ⟨RX1, "leftOf", "(I)I"⟩
abbrev cX1_operatorOf : ByteArray := prog_3_method_19_code
def yX1_operatorOf : MethodName := ⟨RX1, "operatorOf", "(I)I"⟩
abbrev cX1_rightOf : ByteArray := prog_3_method_20_code
def yX1_rightOf : MethodName := ⟨RX1, "rightOf", "(I)I"⟩
abbrev cX1_followerAt : ByteArray := prog_3_method_21_code
def yX1_followerAt : MethodName := ⟨RX1, "followerAt", "(I)I"⟩
abbrev cX1_item : ByteArray := prog_3_method_22_code
def yX1_item : MethodName := ⟨RX1, "item", "([II)I"⟩
abbrev cX1_tally : ByteArray := prog_3_method_23_code
def yX1_tally : MethodName := ⟨RX1, "tally", "(I)I"⟩
abbrev cX1_nesting : ByteArray := prog_3_method_24_code
def yX1_nesting : MethodName := ⟨RX1, "nesting", "()I"⟩
abbrev cX1_depthOf : ByteArray := prog_3_method_25_code
def yX1_depthOf : MethodName := ⟨RX1, "depthOf", "(I)I"⟩
abbrev cX1_settableCells : ByteArray := prog_3_method_26_code
def yX1_settableCells : MethodName := ⟨RX1, "settableCells", "()I"⟩
def RX2 : String := "PairedSteps$Output"
def TX2 : u_T := fun k => match k with
  | 0 => ("PairedSteps$Output", "values", "[I", true)
  | 1 => ("PairedSteps$Output", "total", "I", false)
  | _ => ("PairedSteps$Output", "cutOff", "Z", false)
def tyX2 : Nat → FieldType := fun k => match k with
  | 0 => .array .int
  | 1 => .int
  | _ => .boolean
abbrev wsX20 : List Cond := u_ws RX2 TX2 3
theorem nmX2 : ∀ a, a < 3 → ∀ b, b < 3 → a ≠ b → (TX2 a).2.1 ≠ (TX2 b).2.1 := by decide +kernel
theorem tyX2_ok : ∀ k, k < 3 → parseFieldDescriptor (TX2 k).2.2.1 = some (tyX2 k) := by decide +kernel
abbrev cX2_init : ByteArray := prog_4_method_1_code
def yX2_init : MethodName := ⟨RX2, "<init>", "()V"⟩
abbrev cX2_begin : ByteArray := prog_4_method_2_code
def yX2_begin : MethodName := ⟨RX2, "begin", "()V"⟩
abbrev cX2_add : ByteArray := prog_4_method_3_code
def yX2_add : MethodName := ⟨RX2, "add", "(I)V"⟩
abbrev cX2_takeFrom : ByteArray := prog_4_method_4_code
def yX2_takeFrom : MethodName := ⟨RX2, "takeFrom", "(LPairedSteps$Output;)V"⟩
abbrev cX2_valueAt : ByteArray := prog_4_method_5_code
def yX2_valueAt : MethodName := ⟨RX2, "valueAt", "(I)I"⟩
abbrev cX2_firstDifference : ByteArray := prog_4_method_6_code
def yX2_firstDifference : MethodName := ⟨RX2, "firstDifference", "(LPairedSteps$Output;)I"⟩
abbrev cX2_hasValuesOf : ByteArray := prog_4_method_7_code
def yX2_hasValuesOf : MethodName := ⟨RX2, "hasValuesOf", "(LPairedSteps$Output;)Z"⟩
def RX3 : String := "PairedSteps$Reader"
def TX3 : u_T := fun k => match k with
  | 0 => ("PairedSteps$Reader", "text", "LPairedSteps$Text;", true)
  | 1 => ("PairedSteps$Reader", "draft", "LPairedSteps$Listing;", true)
  | 2 => ("PairedSteps$Reader", "opened", "[I", true)
  | 3 => ("PairedSteps$Reader", "awaited", "[I", true)
  | 4 => ("PairedSteps$Reader", "depth", "I", false)
  | _ => ("PairedSteps$Reader", "place", "I", false)
def tyX3 : Nat → FieldType := fun k => match k with
  | 0 => .object "PairedSteps$Text"
  | 1 => .object "PairedSteps$Listing"
  | 2 => .array .int
  | 3 => .array .int
  | 4 => .int
  | _ => .int
abbrev wsX30 : List Cond := u_ws RX3 TX3 6
theorem nmX3 : ∀ a, a < 6 → ∀ b, b < 6 → a ≠ b → (TX3 a).2.1 ≠ (TX3 b).2.1 := by decide +kernel
theorem tyX3_ok : ∀ k, k < 6 → parseFieldDescriptor (TX3 k).2.2.1 = some (tyX3 k) := by decide +kernel
abbrev cX3_init : ByteArray := prog_5_method_1_code
def yX3_init : MethodName := ⟨RX3, "<init>", "(LPairedSteps$Text;LPairedSteps$Listing;)V"⟩
abbrev cX3_readDraft : ByteArray := prog_5_method_2_code
def yX3_readDraft : MethodName := ⟨RX3, "readDraft", "()Z"⟩
abbrev cX3_readStatement : ByteArray := prog_5_method_3_code
def yX3_readStatement : MethodName := ⟨RX3, "readStatement", "(I)Z"⟩
abbrev cX3_readTell : ByteArray := prog_5_method_4_code
def yX3_readTell : MethodName := ⟨RX3, "readTell", "()Z"⟩
abbrev cX3_readSetting : ByteArray := prog_5_method_5_code
def yX3_readSetting : MethodName := ⟨RX3, "readSetting", "()Z"⟩
abbrev cX3_readOpening : ByteArray := prog_5_method_6_code
def yX3_readOpening : MethodName := ⟨RX3, "readOpening", "(II)Z"⟩
abbrev cX3_goOn : ByteArray := prog_5_method_7_code
def yX3_goOn : MethodName := ⟨RX3, "goOn", "(I)V"⟩
abbrev cX3_innermost : ByteArray := prog_5_method_8_code
def yX3_innermost : MethodName := ⟨RX3, "innermost", "()I"⟩
abbrev cX3_awaitedSign : ByteArray := prog_5_method_9_code
def yX3_awaitedSign : MethodName := ⟨RX3, "awaitedSign", "()I"⟩
abbrev cX3_nextSign : ByteArray := prog_5_method_10_code
def yX3_nextSign : MethodName := ⟨RX3, "nextSign", "()I"⟩
abbrev cX3_take : ByteArray := prog_5_method_11_code
def yX3_take : MethodName := ⟨RX3, "take", "(I)Z"⟩
abbrev cX3_takeCell : ByteArray := prog_5_method_12_code
def yX3_takeCell : MethodName := ⟨RX3, "takeCell", "()I"⟩
abbrev cX3_takeOperator : ByteArray := prog_5_method_13_code
def yX3_takeOperator : MethodName := ⟨RX3, "takeOperator", "()I"⟩
abbrev cX3_takeTerm : ByteArray := prog_5_method_14_code
def yX3_takeTerm : MethodName := ⟨RX3, "takeTerm", "()I"⟩
abbrev cX3_takeNumber : ByteArray := prog_5_method_15_code
def yX3_takeNumber : MethodName := ⟨RX3, "takeNumber", "()I"⟩
abbrev cX3_isDigit : ByteArray := prog_5_method_16_code
def yX3_isDigit : MethodName := ⟨RX3, "isDigit", "(I)Z"⟩
def RX4 : String := "PairedSteps$Sides"
def TX4 : u_T := fun k => match k with
  | 0 => ("PairedSteps$Sides", "zeroth", "LPairedSteps$Trace;", true)
  | _ => ("PairedSteps$Sides", "other", "LPairedSteps$Trace;", true)
def tyX4 : Nat → FieldType := fun k => match k with
  | 0 => .object "PairedSteps$Trace"
  | _ => .object "PairedSteps$Trace"
abbrev wsX40 : List Cond := u_ws RX4 TX4 2
theorem nmX4 : ∀ a, a < 2 → ∀ b, b < 2 → a ≠ b → (TX4 a).2.1 ≠ (TX4 b).2.1 := by decide +kernel
theorem tyX4_ok : ∀ k, k < 2 → parseFieldDescriptor (TX4 k).2.2.1 = some (tyX4 k) := by decide +kernel
abbrev cX4_init : ByteArray := prog_6_method_1_code
def yX4_init : MethodName := ⟨RX4, "<init>", "()V"⟩
abbrev cX4_follow : ByteArray := prog_6_method_2_code
def yX4_follow : MethodName := ⟨RX4, "follow", "(LPairedSteps$Listing;LPairedSteps$Listing;II)V"⟩
abbrev cX4_pairsKept : ByteArray := prog_6_method_3_code
def yX4_pairsKept : MethodName := ⟨RX4, "pairsKept", "()I"⟩
abbrev cX4_leadAt : ByteArray := prog_6_method_4_code
def yX4_leadAt : MethodName := ⟨RX4, "leadAt", "(I)I"⟩
abbrev cX4_greatestLead : ByteArray := prog_6_method_5_code
def yX4_greatestLead : MethodName := ⟨RX4, "greatestLead", "()I"⟩
abbrev cX4_lastLead : ByteArray := prog_6_method_6_code
def yX4_lastLead : MethodName := ⟨RX4, "lastLead", "()I"⟩
abbrev cX4_evenPairs : ByteArray := prog_6_method_7_code
def yX4_evenPairs : MethodName := ⟨RX4, "evenPairs", "()I"⟩
abbrev cX4_isEven : ByteArray := prog_6_method_8_code
def yX4_isEven : MethodName := ⟨RX4, "isEven", "(I)Z"⟩
abbrev cX4_cellsEqualTo : ByteArray := prog_6_method_9_code
def yX4_cellsEqualTo : MethodName := ⟨RX4, "cellsEqualTo", "(I)I"⟩
abbrev cX4_isAlwaysSame : ByteArray := prog_6_method_10_code
def yX4_isAlwaysSame : MethodName := ⟨RX4, "isAlwaysSame", "(II)Z"⟩
abbrev cX4_inAgreement : ByteArray := prog_6_method_11_code
def yX4_inAgreement : MethodName := ⟨RX4, "inAgreement", "()Z"⟩
def RX5 : String := "PairedSteps$Text"
def TX5 : u_T := fun k => match k with
  | 0 => ("PairedSteps$Text", "signs", "[C", true)
  | _ => ("PairedSteps$Text", "length", "I", false)
def tyX5 : Nat → FieldType := fun k => match k with
  | 0 => .array .char
  | _ => .int
abbrev wsX50 : List Cond := u_ws RX5 TX5 2
theorem nmX5 : ∀ a, a < 2 → ∀ b, b < 2 → a ≠ b → (TX5 a).2.1 ≠ (TX5 b).2.1 := by decide +kernel
theorem tyX5_ok : ∀ k, k < 2 → parseFieldDescriptor (TX5 k).2.2.1 = some (tyX5 k) := by decide +kernel
abbrev cX5_init : ByteArray := prog_7_method_1_code
def yX5_init : MethodName := ⟨RX5, "<init>", "()V"⟩
abbrev cX5_isFull : ByteArray := prog_7_method_2_code
def yX5_isFull : MethodName := ⟨RX5, "isFull", "()Z"⟩
abbrev cX5_add : ByteArray := prog_7_method_3_code
def yX5_add : MethodName := ⟨RX5, "add", "(C)V"⟩
abbrev cX5_signAt : ByteArray := prog_7_method_4_code
def yX5_signAt : MethodName := ⟨RX5, "signAt", "(I)I"⟩
def RX6 : String := "PairedSteps$Trace"
def TX6 : u_T := fun k => match k with
  | 0 => ("PairedSteps$Trace", "output", "LPairedSteps$Output;", true)
  | 1 => ("PairedSteps$Trace", "cells", "[I", true)
  | 2 => ("PairedSteps$Trace", "cellsAtMarks", "[I", true)
  | 3 => ("PairedSteps$Trace", "stepsAhead", "[I", true)
  | 4 => ("PairedSteps$Trace", "roundsSince", "[I", true)
  | 5 => ("PairedSteps$Trace", "steps", "I", false)
  | 6 => ("PairedSteps$Trace", "marks", "I", false)
  | 7 => ("PairedSteps$Trace", "rounds", "I", false)
  | _ => ("PairedSteps$Trace", "mostRounds", "I", false)
def tyX6 : Nat → FieldType := fun k => match k with
  | 0 => .object "PairedSteps$Output"
  | 1 => .array .int
  | 2 => .array .int
  | 3 => .array .int
  | 4 => .array .int
  | 5 => .int
  | 6 => .int
  | 7 => .int
  | _ => .int
abbrev wsX60 : List Cond := u_ws RX6 TX6 9
theorem nmX6 : ∀ a, a < 9 → ∀ b, b < 9 → a ≠ b → (TX6 a).2.1 ≠ (TX6 b).2.1 := by decide +kernel
theorem tyX6_ok : ∀ k, k < 9 → parseFieldDescriptor (TX6 k).2.2.1 = some (tyX6 k) := by decide +kernel
abbrev cX6_init : ByteArray := prog_8_method_1_code
def yX6_init : MethodName := ⟨RX6, "<init>", "()V"⟩
abbrev cX6_follow : ByteArray := prog_8_method_2_code
def yX6_follow : MethodName := ⟨RX6, "follow", "(LPairedSteps$Listing;II)V"⟩
abbrev cX6_begin : ByteArray := prog_8_method_3_code
def yX6_begin : MethodName := ⟨RX6, "begin", "(II)V"⟩
abbrev cX6_stepFrom : ByteArray := prog_8_method_4_code
def yX6_stepFrom : MethodName := ⟨RX6, "stepFrom", "(LPairedSteps$Listing;I)I"⟩
abbrev cX6_countLook : ByteArray := prog_8_method_5_code
def yX6_countLook : MethodName := ⟨RX6, "countLook", "(IZ)V"⟩
abbrev cX6_resultOf : ByteArray := prog_8_method_6_code
def yX6_resultOf : MethodName := ⟨RX6, "resultOf", "(LPairedSteps$Listing;I)I"⟩
abbrev cX6_termValue : ByteArray := prog_8_method_7_code
def yX6_termValue : MethodName := ⟨RX6, "termValue", "(I)I"⟩
abbrev cX6_nearestValue : ByteArray := prog_8_method_8_code
def yX6_nearestValue : MethodName := ⟨RX6, "nearestValue", "(I)I"⟩
abbrev cX6_setCell : ByteArray := prog_8_method_9_code
def yX6_setCell : MethodName := ⟨RX6, "setCell", "(II)V"⟩
abbrev cX6_keepMark : ByteArray := prog_8_method_10_code
def yX6_keepMark : MethodName := ⟨RX6, "keepMark", "()V"⟩
abbrev cX6_marksKept : ByteArray := prog_8_method_11_code
def yX6_marksKept : MethodName := ⟨RX6, "marksKept", "()I"⟩
abbrev cX6_valueOf : ByteArray := prog_8_method_12_code
def yX6_valueOf : MethodName := ⟨RX6, "valueOf", "(I)I"⟩
abbrev cX6_cellAtMark : ByteArray := prog_8_method_13_code
def yX6_cellAtMark : MethodName := ⟨RX6, "cellAtMark", "(II)I"⟩
abbrev cX6_stepsAheadOf : ByteArray := prog_8_method_14_code
def yX6_stepsAheadOf : MethodName := ⟨RX6, "stepsAheadOf", "(I)I"⟩
def RX7 : String := "PairedSteps"
def TX7 : u_T := fun k => match k with
  | 0 => ("PairedSteps", "text", "LPairedSteps$Text;", true)
  | 1 => ("PairedSteps", "draft", "LPairedSteps$Listing;", true)
  | 2 => ("PairedSteps", "reader", "LPairedSteps$Reader;", true)
  | 3 => ("PairedSteps", "history", "LPairedSteps$History;", true)
  | 4 => ("PairedSteps", "sides", "LPairedSteps$Sides;", true)
  | 5 => ("PairedSteps", "outputsBefore", "[LPairedSteps$Output;", true)
  | 6 => ("PairedSteps", "zeroth", "LPairedSteps$Listing;", false)
  | _ => ("PairedSteps", "other", "LPairedSteps$Listing;", false)
def tyX7 : Nat → FieldType := fun k => match k with
  | 0 => .object "PairedSteps$Text"
  | 1 => .object "PairedSteps$Listing"
  | 2 => .object "PairedSteps$Reader"
  | 3 => .object "PairedSteps$History"
  | 4 => .object "PairedSteps$Sides"
  | 5 => .array (.object "PairedSteps$Output")
  | 6 => .object "PairedSteps$Listing"
  | _ => .object "PairedSteps$Listing"
abbrev wsX70 : List Cond := u_ws RX7 TX7 8
theorem nmX7 : ∀ a, a < 8 → ∀ b, b < 8 → a ≠ b → (TX7 a).2.1 ≠ (TX7 b).2.1 := by decide +kernel
theorem tyX7_ok : ∀ k, k < 8 → parseFieldDescriptor (TX7 k).2.2.1 = some (tyX7 k) := by decide +kernel
abbrev cX7_init : ByteArray := prog_1_method_1_code
def yX7_init : MethodName := ⟨RX7, "<init>", "()V"⟩
abbrev cX7_append : ByteArray := prog_1_method_2_code
def yX7_append : MethodName := ⟨RX7, "append", "(I)I"⟩
abbrev cX7_clearText : ByteArray := prog_1_method_3_code
def yX7_clearText : MethodName := ⟨RX7, "clearText", "()I"⟩
abbrev cX7_read : ByteArray := prog_1_method_4_code
def yX7_read : MethodName := ⟨RX7, "read", "(I)I"⟩
abbrev cX7_copy : ByteArray := prog_1_method_5_code
def yX7_copy : MethodName := ⟨RX7, "copy", "()I"⟩
abbrev cX7_exchange : ByteArray := prog_1_method_6_code
def yX7_exchange : MethodName := ⟨RX7, "exchange", "()I"⟩
abbrev cX7_cut : ByteArray := prog_1_method_7_code
def yX7_cut : MethodName := ⟨RX7, "cut", "(II)I"⟩
abbrev cX7_undo : ByteArray := prog_1_method_8_code
def yX7_undo : MethodName := ⟨RX7, "undo", "()I"⟩
abbrev cX7_count : ByteArray := prog_1_method_9_code
def yX7_count : MethodName := ⟨RX7, "count", "(I)I"⟩
abbrev cX7_program : ByteArray := prog_1_method_10_code
def yX7_program : MethodName := ⟨RX7, "program", "(II)I"⟩
abbrev cX7_run : ByteArray := prog_1_method_11_code
def yX7_run : MethodName := ⟨RX7, "run", "(IIII)I"⟩
abbrev cX7_told : ByteArray := prog_1_method_12_code
def yX7_told : MethodName := ⟨RX7, "told", "(IIII)I"⟩
abbrev cX7_cell : ByteArray := prog_1_method_13_code
def yX7_cell : MethodName := ⟨RX7, "cell", "(IIIII)I"⟩
abbrev cX7_pairs : ByteArray := prog_1_method_14_code
def yX7_pairs : MethodName := ⟨RX7, "pairs", "(III)I"⟩
abbrev cX7_equal : ByteArray := prog_1_method_15_code
def yX7_equal : MethodName := ⟨RX7, "equal", "(III)I"⟩
abbrev cX7_difference : ByteArray := prog_1_method_16_code
def yX7_difference : MethodName := ⟨RX7, "difference", "(II)I"⟩
abbrev cX7_agree : ByteArray := prog_1_method_17_code
def yX7_agree : MethodName := ⟨RX7, "agree", "(III)I"⟩
abbrev cX7_always : ByteArray := prog_1_method_18_code
def yX7_always : MethodName := ⟨RX7, "always", "(I)I"⟩
abbrev cX7_idle : ByteArray := prog_1_method_19_code
def yX7_idle : MethodName := ⟨RX7, "idle", "(I)I"⟩
abbrev cX7_keepOutputsOf : ByteArray := prog_1_method_20_code
def yX7_keepOutputsOf : MethodName := ⟨RX7, "keepOutputsOf", "(LPairedSteps$Listing;)V"⟩
abbrev cX7_putsOutAsBefore : ByteArray := prog_1_method_21_code
def yX7_putsOutAsBefore : MethodName := ⟨RX7, "putsOutAsBefore", "(LPairedSteps$Listing;)Z"⟩
abbrev cX7_listingOf : ByteArray := prog_1_method_22_code
def yX7_listingOf : MethodName := ⟨RX7, "listingOf", "(I)LPairedSteps$Listing;"⟩
abbrev cX7_traceOf : ByteArray := prog_1_method_23_code
def yX7_traceOf : MethodName := ⟨RX7, "traceOf", "(III)LPairedSteps$Trace;"⟩
abbrev cX7_triedFirst : ByteArray := prog_1_method_24_code
def yX7_triedFirst : MethodName := ⟨RX7, "triedFirst", "(I)I"⟩
abbrev cX7_triedSecond : ByteArray := prog_1_method_25_code
def yX7_triedSecond : MethodName := ⟨RX7, "triedSecond", "(I)I"⟩
abbrev cX7_isWithin : ByteArray := prog_1_method_26_code
def yX7_isWithin : MethodName := ⟨RX7, "isWithin", "(III)Z"⟩
abbrev cX7_isProgram : ByteArray := prog_1_method_27_code
def yX7_isProgram : MethodName := ⟨RX7, "isProgram", "(I)Z"⟩
abbrev cX7_isCell : ByteArray := prog_1_method_28_code
def yX7_isCell : MethodName := ⟨RX7, "isCell", "(I)Z"⟩
abbrev cX7_isInput : ByteArray := prog_1_method_29_code
def yX7_isInput : MethodName := ⟨RX7, "isInput", "(II)Z"⟩
def RX8 : String := "PairedStepsModel"
def TX8 : u_T := fun k => match k with
  | 0 => ("PairedStepsModel", "now", "[I", true)
  | 1 => ("PairedStepsModel", "past", "[I", true)
  | 2 => ("PairedStepsModel", "saved", "I", false)
  | 3 => ("PairedStepsModel", "text", "[I", true)
  | 4 => ("PairedStepsModel", "length", "I", false)
  | 5 => ("PairedStepsModel", "code", "[I", true)
  | 6 => ("PairedStepsModel", "at", "I", false)
  | 7 => ("PairedStepsModel", "open", "[I", true)
  | 8 => ("PairedStepsModel", "phase", "[I", true)
  | 9 => ("PairedStepsModel", "cells", "[I", true)
  | 10 => ("PairedStepsModel", "tells", "[I", true)
  | 11 => ("PairedStepsModel", "markSteps", "[I", true)
  | 12 => ("PairedStepsModel", "markCells", "[I", true)
  | 13 => ("PairedStepsModel", "numbers", "[I", true)
  | 14 => ("PairedStepsModel", "into", "[I", true)
  | 15 => ("PairedStepsModel", "until", "[I", true)
  | 16 => ("PairedStepsModel", "rounds", "[I", true)
  | 17 => ("PairedStepsModel", "before", "[I", true)
  | 18 => ("PairedStepsModel", "beforeMany", "[I", true)
  | _ => ("PairedStepsModel", "beforeCut", "[I", true)
def tyX8 : Nat → FieldType := fun k => match k with
  | 0 => .array .int
  | 1 => .array .int
  | 2 => .int
  | 3 => .array .int
  | 4 => .int
  | 5 => .array .int
  | 6 => .int
  | 7 => .array .int
  | 8 => .array .int
  | 9 => .array .int
  | 10 => .array .int
  | 11 => .array .int
  | 12 => .array .int
  | 13 => .array .int
  | 14 => .array .int
  | 15 => .array .int
  | 16 => .array .int
  | 17 => .array .int
  | 18 => .array .int
  | _ => .array .int
abbrev wsX80 : List Cond := u_ws RX8 TX8 20
theorem nmX8 : ∀ a, a < 20 → ∀ b, b < 20 → a ≠ b → (TX8 a).2.1 ≠ (TX8 b).2.1 := by decide +kernel
theorem tyX8_ok : ∀ k, k < 20 → parseFieldDescriptor (TX8 k).2.2.1 = some (tyX8 k) := by decide +kernel
abbrev cX8_init : ByteArray := prog_10_method_1_code
def yX8_init : MethodName := ⟨RX8, "<init>", "()V"⟩
abbrev cX8_within : ByteArray := prog_10_method_2_code
def yX8_within : MethodName := ⟨RX8, "within", "(III)Z"⟩
abbrev cX8_isProgram : ByteArray := prog_10_method_3_code
def yX8_isProgram : MethodName := ⟨RX8, "isProgram", "(I)Z"⟩
abbrev cX8_isInput : ByteArray := prog_10_method_4_code
def yX8_isInput : MethodName := ⟨RX8, "isInput", "(II)Z"⟩
abbrev cX8_isCell : ByteArray := prog_10_method_5_code
def yX8_isCell : MethodName := ⟨RX8, "isCell", "(I)Z"⟩
abbrev cX8_saves : ByteArray := prog_10_method_6_code
def yX8_saves : MethodName := ⟨RX8, "saves", "()V"⟩
abbrev cX8_undo : ByteArray := prog_10_method_7_code
def yX8_undo : MethodName := ⟨RX8, "undo", "()I"⟩
abbrev cX8_takes : ByteArray := prog_10_method_8_code
def yX8_takes : MethodName := ⟨RX8, "takes", "(I)V"⟩
abbrev cX8_lays : ByteArray := prog_10_method_9_code
def yX8_lays : MethodName := ⟨RX8, "lays", "(I)V"⟩
abbrev cX8_of : ByteArray := prog_10_method_10_code
def yX8_of : MethodName := ⟨RX8, "of", "(II)I"⟩
abbrev cX8_put : ByteArray := prog_10_method_11_code
def yX8_put : MethodName := ⟨RX8, "put", "(III)V"⟩
abbrev cX8_append : ByteArray := prog_10_method_12_code
def yX8_append : MethodName := ⟨RX8, "append", "(I)I"⟩
abbrev cX8_clearText : ByteArray := prog_10_method_13_code
def yX8_clearText : MethodName := ⟨RX8, "clearText", "()I"⟩
abbrev cX8_here : ByteArray := prog_10_method_14_code
def yX8_here : MethodName := ⟨RX8, "here", "()I"⟩
abbrev cX8_passes : ByteArray := prog_10_method_15_code
def yX8_passes : MethodName := ⟨RX8, "passes", "(I)Z"⟩
abbrev cX8_isLetter : ByteArray := prog_10_method_16_code
def yX8_isLetter : MethodName := ⟨RX8, "isLetter", "(I)Z"⟩
abbrev cX8_readsCell : ByteArray := prog_10_method_17_code
def yX8_readsCell : MethodName := ⟨RX8, "readsCell", "(I)Z"⟩
abbrev cX8_readsTerm : ByteArray := prog_10_method_18_code
def yX8_readsTerm : MethodName := ⟨RX8, "readsTerm", "(II)Z"⟩
abbrev cX8_readsSetting : ByteArray := prog_10_method_19_code
def yX8_readsSetting : MethodName := ⟨RX8, "readsSetting", "(I)Z"⟩
abbrev cX8_kindOf : ByteArray := prog_10_method_20_code
def yX8_kindOf : MethodName := ⟨RX8, "kindOf", "(I)I"⟩
abbrev cX8_readsStatement : ByteArray := prog_10_method_21_code
def yX8_readsStatement : MethodName := ⟨RX8, "readsStatement", "(II)Z"⟩
abbrev cX8_readsAll : ByteArray := prog_10_method_22_code
def yX8_readsAll : MethodName := ⟨RX8, "readsAll", "()Z"⟩
abbrev cX8_read : ByteArray := prog_10_method_23_code
def yX8_read : MethodName := ⟨RX8, "read", "(I)I"⟩
abbrev cX8_copy : ByteArray := prog_10_method_24_code
def yX8_copy : MethodName := ⟨RX8, "copy", "()I"⟩
abbrev cX8_exchange : ByteArray := prog_10_method_25_code
def yX8_exchange : MethodName := ⟨RX8, "exchange", "()I"⟩
abbrev cX8_sizeOf : ByteArray := prog_10_method_26_code
def yX8_sizeOf : MethodName := ⟨RX8, "sizeOf", "(I)I"⟩
abbrev cX8_cuts : ByteArray := prog_10_method_27_code
def yX8_cuts : MethodName := ⟨RX8, "cuts", "(I)V"⟩
abbrev cX8_isStatement : ByteArray := prog_10_method_28_code
def yX8_isStatement : MethodName := ⟨RX8, "isStatement", "(II)Z"⟩
abbrev cX8_cut : ByteArray := prog_10_method_29_code
def yX8_cut : MethodName := ⟨RX8, "cut", "(II)I"⟩
abbrev cX8_count : ByteArray := prog_10_method_30_code
def yX8_count : MethodName := ⟨RX8, "count", "(I)I"⟩
abbrev cX8_ofKind : ByteArray := prog_10_method_31_code
def yX8_ofKind : MethodName := ⟨RX8, "ofKind", "(I)I"⟩
abbrev cX8_depthAll : ByteArray := prog_10_method_32_code
def yX8_depthAll : MethodName := ⟨RX8, "depthAll", "()I"⟩
abbrev cX8_canSet : ByteArray := prog_10_method_33_code
def yX8_canSet : MethodName := ⟨RX8, "canSet", "()I"⟩
abbrev cX8_program : ByteArray := prog_10_method_34_code
def yX8_program : MethodName := ⟨RX8, "program", "(II)I"⟩
abbrev cX8_term : ByteArray := prog_10_method_35_code
def yX8_term : MethodName := ⟨RX8, "term", "(II)I"⟩
abbrev cX8_held : ByteArray := prog_10_method_36_code
def yX8_held : MethodName := ⟨RX8, "held", "(I)I"⟩
abbrev cX8_sets : ByteArray := prog_10_method_37_code
def yX8_sets : MethodName := ⟨RX8, "sets", "(II)V"⟩
abbrev cX8_tellsCell : ByteArray := prog_10_method_38_code
def yX8_tellsCell : MethodName := ⟨RX8, "tellsCell", "(II)V"⟩
abbrev cX8_marks : ByteArray := prog_10_method_39_code
def yX8_marks : MethodName := ⟨RX8, "marks", "(I)V"⟩
abbrev cX8_roundOf : ByteArray := prog_10_method_40_code
def yX8_roundOf : MethodName := ⟨RX8, "roundOf", "(II)V"⟩
abbrev cX8_runs : ByteArray := prog_10_method_41_code
def yX8_runs : MethodName := ⟨RX8, "runs", "(III)V"⟩
abbrev cX8_does : ByteArray := prog_10_method_42_code
def yX8_does : MethodName := ⟨RX8, "does", "(III)V"⟩
abbrev cX8_runsOne : ByteArray := prog_10_method_43_code
def yX8_runsOne : MethodName := ⟨RX8, "runsOne", "(III)V"⟩
abbrev cX8_least : ByteArray := prog_10_method_44_code
def yX8_least : MethodName := ⟨RX8, "least", "(II)I"⟩
abbrev cX8_run : ByteArray := prog_10_method_45_code
def yX8_run : MethodName := ⟨RX8, "run", "(IIII)I"⟩
abbrev cX8_told : ByteArray := prog_10_method_46_code
def yX8_told : MethodName := ⟨RX8, "told", "(IIII)I"⟩
abbrev cX8_cell : ByteArray := prog_10_method_47_code
def yX8_cell : MethodName := ⟨RX8, "cell", "(IIIII)I"⟩
abbrev cX8_runsBoth : ByteArray := prog_10_method_48_code
def yX8_runsBoth : MethodName := ⟨RX8, "runsBoth", "(II)V"⟩
abbrev cX8_pairMany : ByteArray := prog_10_method_49_code
def yX8_pairMany : MethodName := ⟨RX8, "pairMany", "()I"⟩
abbrev cX8_leadOf : ByteArray := prog_10_method_50_code
def yX8_leadOf : MethodName := ⟨RX8, "leadOf", "(I)I"⟩
abbrev cX8_greatestLead : ByteArray := prog_10_method_51_code
def yX8_greatestLead : MethodName := ⟨RX8, "greatestLead", "()I"⟩
abbrev cX8_isEqual : ByteArray := prog_10_method_52_code
def yX8_isEqual : MethodName := ⟨RX8, "isEqual", "(III)Z"⟩
abbrev cX8_allEqual : ByteArray := prog_10_method_53_code
def yX8_allEqual : MethodName := ⟨RX8, "allEqual", "()I"⟩
abbrev cX8_pairs : ByteArray := prog_10_method_54_code
def yX8_pairs : MethodName := ⟨RX8, "pairs", "(III)I"⟩
abbrev cX8_equalTo : ByteArray := prog_10_method_55_code
def yX8_equalTo : MethodName := ⟨RX8, "equalTo", "(I)I"⟩
abbrev cX8_equal : ByteArray := prog_10_method_56_code
def yX8_equal : MethodName := ⟨RX8, "equal", "(III)I"⟩
abbrev cX8_firstDifference : ByteArray := prog_10_method_57_code
def yX8_firstDifference : MethodName := ⟨RX8, "firstDifference", "()I"⟩
abbrev cX8_difference : ByteArray := prog_10_method_58_code
def yX8_difference : MethodName := ⟨RX8, "difference", "(II)I"⟩
abbrev cX8_agreeOn : ByteArray := prog_10_method_59_code
def yX8_agreeOn : MethodName := ⟨RX8, "agreeOn", "(II)Z"⟩
abbrev cX8_agree : ByteArray := prog_10_method_60_code
def yX8_agree : MethodName := ⟨RX8, "agree", "(III)I"⟩
abbrev cX8_always : ByteArray := prog_10_method_61_code
def yX8_always : MethodName := ⟨RX8, "always", "(I)I"⟩
abbrev cX8_keeps : ByteArray := prog_10_method_62_code
def yX8_keeps : MethodName := ⟨RX8, "keeps", "(I)V"⟩
abbrev cX8_isIdle : ByteArray := prog_10_method_63_code
def yX8_isIdle : MethodName := ⟨RX8, "isIdle", "(II)Z"⟩
abbrev cX8_idle : ByteArray := prog_10_method_64_code
def yX8_idle : MethodName := ⟨RX8, "idle", "(I)I"⟩
def RL : String := "PairedStepsLaw"
abbrev cL_law : ByteArray := code
def yL_law : MethodName := ⟨RL, "law", "([I)Z"⟩
abbrev vwCl : List vw_C := [(RX0, TX0, 3), (RX1, TX1, 10), (RX2, TX2, 3), (RX3, TX3, 6), (RX4, TX4, 2), (RX5, TX5, 2), (RX6, TX6, 9), (RX7, TX7, 8), (RX8, TX8, 20)]
