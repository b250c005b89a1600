section
-- ===== PART A: goes FIRST, ahead of the names: the tables' words, and 'selects' of the private methods out of them =====
/-- a private method of a class that the tables say can be made, by its rows of tables_1 -/
def lw_okq (q : MethodName × Nat) : Prop := (q.1.cls ≠ "java/lang/invoke/MethodHandle" ∧ q.1.cls ≠ "java/lang/invoke/VarHandle") ∧ Cond.instantiable q.1.cls q.2 ∈ tables_1 ∧ Cond.privateMethod q.1 ∈ tables_1 ∧ Cond.instanceMethod q.1 ∈ tables_1
theorem lw_p0 : lw_okq (⟨"PairedSteps$Reader", "nextSign", "()I"⟩, 6) := ⟨⟨by decide +kernel, by decide +kernel⟩, List.mem_of_getElem? (i := 76) (by decide +kernel), List.mem_of_getElem? (i := 256) (by decide +kernel), List.mem_of_getElem? (i := 257) (by decide +kernel)⟩
theorem lw_p1 : lw_okq (⟨"PairedSteps$Reader", "awaitedSign", "()I"⟩, 6) := ⟨⟨by decide +kernel, by decide +kernel⟩, List.mem_of_getElem? (i := 76) (by decide +kernel), List.mem_of_getElem? (i := 267) (by decide +kernel), List.mem_of_getElem? (i := 268) (by decide +kernel)⟩
theorem lw_p2 : lw_okq (⟨"PairedSteps$Reader", "readStatement", "(I)Z"⟩, 6) := ⟨⟨by decide +kernel, by decide +kernel⟩, List.mem_of_getElem? (i := 76) (by decide +kernel), List.mem_of_getElem? (i := 272) (by decide +kernel), List.mem_of_getElem? (i := 273) (by decide +kernel)⟩
theorem lw_p3 : lw_okq (⟨"PairedSteps$Reader", "readTell", "()Z"⟩, 6) := ⟨⟨by decide +kernel, by decide +kernel⟩, List.mem_of_getElem? (i := 76) (by decide +kernel), List.mem_of_getElem? (i := 280) (by decide +kernel), List.mem_of_getElem? (i := 281) (by decide +kernel)⟩
theorem lw_p4 : lw_okq (⟨"PairedSteps$Reader", "takeCell", "()I"⟩, 6) := ⟨⟨by decide +kernel, by decide +kernel⟩, List.mem_of_getElem? (i := 76) (by decide +kernel), List.mem_of_getElem? (i := 284) (by decide +kernel), List.mem_of_getElem? (i := 285) (by decide +kernel)⟩
theorem lw_p5 : lw_okq (⟨"PairedSteps$Reader", "take", "(I)Z"⟩, 6) := ⟨⟨by decide +kernel, by decide +kernel⟩, List.mem_of_getElem? (i := 76) (by decide +kernel), List.mem_of_getElem? (i := 291) (by decide +kernel), List.mem_of_getElem? (i := 292) (by decide +kernel)⟩
theorem lw_p6 : lw_okq (⟨"PairedSteps$Reader", "innermost", "()I"⟩, 6) := ⟨⟨by decide +kernel, by decide +kernel⟩, List.mem_of_getElem? (i := 76) (by decide +kernel), List.mem_of_getElem? (i := 295) (by decide +kernel), List.mem_of_getElem? (i := 296) (by decide +kernel)⟩
theorem lw_p7 : lw_okq (⟨"PairedSteps$Reader", "readOpening", "(II)Z"⟩, 6) := ⟨⟨by decide +kernel, by decide +kernel⟩, List.mem_of_getElem? (i := 76) (by decide +kernel), List.mem_of_getElem? (i := 304) (by decide +kernel), List.mem_of_getElem? (i := 305) (by decide +kernel)⟩
theorem lw_p8 : lw_okq (⟨"PairedSteps$Reader", "readSetting", "()Z"⟩, 6) := ⟨⟨by decide +kernel, by decide +kernel⟩, List.mem_of_getElem? (i := 76) (by decide +kernel), List.mem_of_getElem? (i := 308) (by decide +kernel), List.mem_of_getElem? (i := 309) (by decide +kernel)⟩
theorem lw_p9 : lw_okq (⟨"PairedSteps$Reader", "takeTerm", "()I"⟩, 6) := ⟨⟨by decide +kernel, by decide +kernel⟩, List.mem_of_getElem? (i := 76) (by decide +kernel), List.mem_of_getElem? (i := 312) (by decide +kernel), List.mem_of_getElem? (i := 313) (by decide +kernel)⟩
theorem lw_p10 : lw_okq (⟨"PairedSteps$Reader", "takeNumber", "()I"⟩, 6) := ⟨⟨by decide +kernel, by decide +kernel⟩, List.mem_of_getElem? (i := 76) (by decide +kernel), List.mem_of_getElem? (i := 319) (by decide +kernel), List.mem_of_getElem? (i := 320) (by decide +kernel)⟩
theorem lw_p11 : lw_okq (⟨"PairedSteps$Reader", "takeOperator", "()I"⟩, 6) := ⟨⟨by decide +kernel, by decide +kernel⟩, List.mem_of_getElem? (i := 76) (by decide +kernel), List.mem_of_getElem? (i := 323) (by decide +kernel), List.mem_of_getElem? (i := 324) (by decide +kernel)⟩
theorem lw_p12 : lw_okq (⟨"PairedSteps$Listing", "followerOf", "(I)I"⟩, 10) := ⟨⟨by decide +kernel, by decide +kernel⟩, List.mem_of_getElem? (i := 36) (by decide +kernel), List.mem_of_getElem? (i := 340) (by decide +kernel), List.mem_of_getElem? (i := 341) (by decide +kernel)⟩
theorem lw_p13 : lw_okq (⟨"PairedSteps$Listing", "item", "([II)I"⟩, 10) := ⟨⟨by decide +kernel, by decide +kernel⟩, List.mem_of_getElem? (i := 36) (by decide +kernel), List.mem_of_getElem? (i := 344) (by decide +kernel), List.mem_of_getElem? (i := 345) (by decide +kernel)⟩
theorem lw_p14 : lw_okq (⟨"PairedSteps$Reader", "goOn", "(I)V"⟩, 6) := ⟨⟨by decide +kernel, by decide +kernel⟩, List.mem_of_getElem? (i := 76) (by decide +kernel), List.mem_of_getElem? (i := 348) (by decide +kernel), List.mem_of_getElem? (i := 349) (by decide +kernel)⟩
theorem lw_p15 : lw_okq (⟨"PairedSteps$History", "dropOldest", "()V"⟩, 3) := ⟨⟨by decide +kernel, by decide +kernel⟩, List.mem_of_getElem? (i := 102) (by decide +kernel), List.mem_of_getElem? (i := 364) (by decide +kernel), List.mem_of_getElem? (i := 365) (by decide +kernel)⟩
def lw_privs_1 : List (MethodName × Nat) := [(⟨"PairedSteps$Reader", "nextSign", "()I"⟩, 6), (⟨"PairedSteps$Reader", "awaitedSign", "()I"⟩, 6), (⟨"PairedSteps$Reader", "readStatement", "(I)Z"⟩, 6), (⟨"PairedSteps$Reader", "readTell", "()Z"⟩, 6), (⟨"PairedSteps$Reader", "takeCell", "()I"⟩, 6), (⟨"PairedSteps$Reader", "take", "(I)Z"⟩, 6), (⟨"PairedSteps$Reader", "innermost", "()I"⟩, 6), (⟨"PairedSteps$Reader", "readOpening", "(II)Z"⟩, 6), (⟨"PairedSteps$Reader", "readSetting", "()Z"⟩, 6), (⟨"PairedSteps$Reader", "takeTerm", "()I"⟩, 6), (⟨"PairedSteps$Reader", "takeNumber", "()I"⟩, 6), (⟨"PairedSteps$Reader", "takeOperator", "()I"⟩, 6), (⟨"PairedSteps$Listing", "followerOf", "(I)I"⟩, 10), (⟨"PairedSteps$Listing", "item", "([II)I"⟩, 10), (⟨"PairedSteps$Reader", "goOn", "(I)V"⟩, 6), (⟨"PairedSteps$History", "dropOldest", "()V"⟩, 3)]
theorem lw_r1 : ∀ q ∈ lw_privs_1, lw_okq q := List.forall_mem_cons.mpr ⟨lw_p0, List.forall_mem_cons.mpr ⟨lw_p1, List.forall_mem_cons.mpr ⟨lw_p2, List.forall_mem_cons.mpr ⟨lw_p3, List.forall_mem_cons.mpr ⟨lw_p4, List.forall_mem_cons.mpr ⟨lw_p5, List.forall_mem_cons.mpr ⟨lw_p6, List.forall_mem_cons.mpr ⟨lw_p7, List.forall_mem_cons.mpr ⟨lw_p8, List.forall_mem_cons.mpr ⟨lw_p9, List.forall_mem_cons.mpr ⟨lw_p10, List.forall_mem_cons.mpr ⟨lw_p11, List.forall_mem_cons.mpr ⟨lw_p12, List.forall_mem_cons.mpr ⟨lw_p13, List.forall_mem_cons.mpr ⟨lw_p14, List.forall_mem_cons.mpr ⟨lw_p15, fun _ h => absurd h List.not_mem_nil⟩⟩⟩⟩⟩⟩⟩⟩⟩⟩⟩⟩⟩⟩⟩⟩
theorem lw_p16 : lw_okq (⟨"PairedSteps", "listingOf", "(I)LPairedSteps$Listing;"⟩, 8) := ⟨⟨by decide +kernel, by decide +kernel⟩, List.mem_of_getElem? (i := 13) (by decide +kernel), List.mem_of_getElem? (i := 376) (by decide +kernel), List.mem_of_getElem? (i := 377) (by decide +kernel)⟩
theorem lw_p17 : lw_okq (⟨"PairedSteps$Listing", "moveDown", "(II)V"⟩, 10) := ⟨⟨by decide +kernel, by decide +kernel⟩, List.mem_of_getElem? (i := 36) (by decide +kernel), List.mem_of_getElem? (i := 398) (by decide +kernel), List.mem_of_getElem? (i := 399) (by decide +kernel)⟩
theorem lw_p18 : lw_okq (⟨"PairedSteps$Listing", "depthOf", "(I)I"⟩, 10) := ⟨⟨by decide +kernel, by decide +kernel⟩, List.mem_of_getElem? (i := 36) (by decide +kernel), List.mem_of_getElem? (i := 430) (by decide +kernel), List.mem_of_getElem? (i := 431) (by decide +kernel)⟩
theorem lw_p19 : lw_okq (⟨"PairedSteps", "traceOf", "(III)LPairedSteps$Trace;"⟩, 8) := ⟨⟨by decide +kernel, by decide +kernel⟩, List.mem_of_getElem? (i := 13) (by decide +kernel), List.mem_of_getElem? (i := 448) (by decide +kernel), List.mem_of_getElem? (i := 449) (by decide +kernel)⟩
theorem lw_p20 : lw_okq (⟨"PairedSteps$Trace", "begin", "(II)V"⟩, 9) := ⟨⟨by decide +kernel, by decide +kernel⟩, List.mem_of_getElem? (i := 128) (by decide +kernel), List.mem_of_getElem? (i := 456) (by decide +kernel), List.mem_of_getElem? (i := 457) (by decide +kernel)⟩
theorem lw_p21 : lw_okq (⟨"PairedSteps$Trace", "stepFrom", "(LPairedSteps$Listing;I)I"⟩, 9) := ⟨⟨by decide +kernel, by decide +kernel⟩, List.mem_of_getElem? (i := 128) (by decide +kernel), List.mem_of_getElem? (i := 465) (by decide +kernel), List.mem_of_getElem? (i := 466) (by decide +kernel)⟩
theorem lw_p22 : lw_okq (⟨"PairedSteps$Trace", "resultOf", "(LPairedSteps$Listing;I)I"⟩, 9) := ⟨⟨by decide +kernel, by decide +kernel⟩, List.mem_of_getElem? (i := 128) (by decide +kernel), List.mem_of_getElem? (i := 477) (by decide +kernel), List.mem_of_getElem? (i := 478) (by decide +kernel)⟩
theorem lw_p23 : lw_okq (⟨"PairedSteps$Trace", "termValue", "(I)I"⟩, 9) := ⟨⟨by decide +kernel, by decide +kernel⟩, List.mem_of_getElem? (i := 128) (by decide +kernel), List.mem_of_getElem? (i := 485) (by decide +kernel), List.mem_of_getElem? (i := 486) (by decide +kernel)⟩
theorem lw_p24 : lw_okq (⟨"PairedSteps$Trace", "setCell", "(II)V"⟩, 9) := ⟨⟨by decide +kernel, by decide +kernel⟩, List.mem_of_getElem? (i := 128) (by decide +kernel), List.mem_of_getElem? (i := 507) (by decide +kernel), List.mem_of_getElem? (i := 508) (by decide +kernel)⟩
theorem lw_p25 : lw_okq (⟨"PairedSteps$Trace", "keepMark", "()V"⟩, 9) := ⟨⟨by decide +kernel, by decide +kernel⟩, List.mem_of_getElem? (i := 128) (by decide +kernel), List.mem_of_getElem? (i := 520) (by decide +kernel), List.mem_of_getElem? (i := 521) (by decide +kernel)⟩
theorem lw_p26 : lw_okq (⟨"PairedSteps$Trace", "look", "(LPairedSteps$Listing;I)I"⟩, 9) := ⟨⟨by decide +kernel, by decide +kernel⟩, List.mem_of_getElem? (i := 128) (by decide +kernel), List.mem_of_getElem? (i := 526) (by decide +kernel), List.mem_of_getElem? (i := 527) (by decide +kernel)⟩
theorem lw_p27 : lw_okq (⟨"PairedSteps$Sides", "leadAt", "(I)I"⟩, 2) := ⟨⟨by decide +kernel, by decide +kernel⟩, List.mem_of_getElem? (i := 122) (by decide +kernel), List.mem_of_getElem? (i := 583) (by decide +kernel), List.mem_of_getElem? (i := 584) (by decide +kernel)⟩
theorem lw_p28 : lw_okq (⟨"PairedSteps$Sides", "isEven", "(I)Z"⟩, 2) := ⟨⟨by decide +kernel, by decide +kernel⟩, List.mem_of_getElem? (i := 122) (by decide +kernel), List.mem_of_getElem? (i := 603) (by decide +kernel), List.mem_of_getElem? (i := 604) (by decide +kernel)⟩
theorem lw_p29 : lw_okq (⟨"PairedSteps$Sides", "isAlwaysSame", "(II)Z"⟩, 2) := ⟨⟨by decide +kernel, by decide +kernel⟩, List.mem_of_getElem? (i := 122) (by decide +kernel), List.mem_of_getElem? (i := 616) (by decide +kernel), List.mem_of_getElem? (i := 617) (by decide +kernel)⟩
theorem lw_p30 : lw_okq (⟨"PairedSteps", "keepOutputsOf", "(LPairedSteps$Listing;)V"⟩, 8) := ⟨⟨by decide +kernel, by decide +kernel⟩, List.mem_of_getElem? (i := 13) (by decide +kernel), List.mem_of_getElem? (i := 656) (by decide +kernel), List.mem_of_getElem? (i := 657) (by decide +kernel)⟩
theorem lw_p31 : lw_okq (⟨"PairedSteps", "putsOutAsBefore", "(LPairedSteps$Listing;)Z"⟩, 8) := ⟨⟨by decide +kernel, by decide +kernel⟩, List.mem_of_getElem? (i := 13) (by decide +kernel), List.mem_of_getElem? (i := 665) (by decide +kernel), List.mem_of_getElem? (i := 666) (by decide +kernel)⟩
def lw_privs_2 : List (MethodName × Nat) := [(⟨"PairedSteps", "listingOf", "(I)LPairedSteps$Listing;"⟩, 8), (⟨"PairedSteps$Listing", "moveDown", "(II)V"⟩, 10), (⟨"PairedSteps$Listing", "depthOf", "(I)I"⟩, 10), (⟨"PairedSteps", "traceOf", "(III)LPairedSteps$Trace;"⟩, 8), (⟨"PairedSteps$Trace", "begin", "(II)V"⟩, 9), (⟨"PairedSteps$Trace", "stepFrom", "(LPairedSteps$Listing;I)I"⟩, 9), (⟨"PairedSteps$Trace", "resultOf", "(LPairedSteps$Listing;I)I"⟩, 9), (⟨"PairedSteps$Trace", "termValue", "(I)I"⟩, 9), (⟨"PairedSteps$Trace", "setCell", "(II)V"⟩, 9), (⟨"PairedSteps$Trace", "keepMark", "()V"⟩, 9), (⟨"PairedSteps$Trace", "look", "(LPairedSteps$Listing;I)I"⟩, 9), (⟨"PairedSteps$Sides", "leadAt", "(I)I"⟩, 2), (⟨"PairedSteps$Sides", "isEven", "(I)Z"⟩, 2), (⟨"PairedSteps$Sides", "isAlwaysSame", "(II)Z"⟩, 2), (⟨"PairedSteps", "keepOutputsOf", "(LPairedSteps$Listing;)V"⟩, 8), (⟨"PairedSteps", "putsOutAsBefore", "(LPairedSteps$Listing;)Z"⟩, 8)]
theorem lw_r2 : ∀ q ∈ lw_privs_2, lw_okq q := List.forall_mem_cons.mpr ⟨lw_p16, List.forall_mem_cons.mpr ⟨lw_p17, List.forall_mem_cons.mpr ⟨lw_p18, List.forall_mem_cons.mpr ⟨lw_p19, List.forall_mem_cons.mpr ⟨lw_p20, List.forall_mem_cons.mpr ⟨lw_p21, List.forall_mem_cons.mpr ⟨lw_p22, List.forall_mem_cons.mpr ⟨lw_p23, List.forall_mem_cons.mpr ⟨lw_p24, List.forall_mem_cons.mpr ⟨lw_p25, List.forall_mem_cons.mpr ⟨lw_p26, List.forall_mem_cons.mpr ⟨lw_p27, List.forall_mem_cons.mpr ⟨lw_p28, List.forall_mem_cons.mpr ⟨lw_p29, List.forall_mem_cons.mpr ⟨lw_p30, List.forall_mem_cons.mpr ⟨lw_p31, fun _ h => absurd h List.not_mem_nil⟩⟩⟩⟩⟩⟩⟩⟩⟩⟩⟩⟩⟩⟩⟩⟩
theorem lw_p32 : lw_okq (⟨"PairedStepsModel", "readsAll", "()Z"⟩, 20) := ⟨⟨by decide +kernel, by decide +kernel⟩, List.mem_of_getElem? (i := 670) (by decide +kernel), List.mem_of_getElem? (i := 759) (by decide +kernel), List.mem_of_getElem? (i := 760) (by decide +kernel)⟩
theorem lw_p33 : lw_okq (⟨"PairedStepsModel", "here", "()I"⟩, 20) := ⟨⟨by decide +kernel, by decide +kernel⟩, List.mem_of_getElem? (i := 670) (by decide +kernel), List.mem_of_getElem? (i := 763) (by decide +kernel), List.mem_of_getElem? (i := 764) (by decide +kernel)⟩
theorem lw_p34 : lw_okq (⟨"PairedStepsModel", "readsStatement", "(II)Z"⟩, 20) := ⟨⟨by decide +kernel, by decide +kernel⟩, List.mem_of_getElem? (i := 670) (by decide +kernel), List.mem_of_getElem? (i := 773) (by decide +kernel), List.mem_of_getElem? (i := 774) (by decide +kernel)⟩
theorem lw_p35 : lw_okq (⟨"PairedStepsModel", "put", "(III)V"⟩, 20) := ⟨⟨by decide +kernel, by decide +kernel⟩, List.mem_of_getElem? (i := 670) (by decide +kernel), List.mem_of_getElem? (i := 777) (by decide +kernel), List.mem_of_getElem? (i := 778) (by decide +kernel)⟩
theorem lw_p36 : lw_okq (⟨"PairedStepsModel", "readsSetting", "(I)Z"⟩, 20) := ⟨⟨by decide +kernel, by decide +kernel⟩, List.mem_of_getElem? (i := 670) (by decide +kernel), List.mem_of_getElem? (i := 781) (by decide +kernel), List.mem_of_getElem? (i := 782) (by decide +kernel)⟩
theorem lw_p37 : lw_okq (⟨"PairedStepsModel", "readsCell", "(I)Z"⟩, 20) := ⟨⟨by decide +kernel, by decide +kernel⟩, List.mem_of_getElem? (i := 670) (by decide +kernel), List.mem_of_getElem? (i := 785) (by decide +kernel), List.mem_of_getElem? (i := 786) (by decide +kernel)⟩
theorem lw_p38 : lw_okq (⟨"PairedStepsModel", "passes", "(I)Z"⟩, 20) := ⟨⟨by decide +kernel, by decide +kernel⟩, List.mem_of_getElem? (i := 670) (by decide +kernel), List.mem_of_getElem? (i := 789) (by decide +kernel), List.mem_of_getElem? (i := 790) (by decide +kernel)⟩
theorem lw_p39 : lw_okq (⟨"PairedStepsModel", "readsTerm", "(II)Z"⟩, 20) := ⟨⟨by decide +kernel, by decide +kernel⟩, List.mem_of_getElem? (i := 670) (by decide +kernel), List.mem_of_getElem? (i := 793) (by decide +kernel), List.mem_of_getElem? (i := 794) (by decide +kernel)⟩
theorem lw_p40 : lw_okq (⟨"PairedStepsModel", "saves", "()V"⟩, 20) := ⟨⟨by decide +kernel, by decide +kernel⟩, List.mem_of_getElem? (i := 670) (by decide +kernel), List.mem_of_getElem? (i := 797) (by decide +kernel), List.mem_of_getElem? (i := 798) (by decide +kernel)⟩
theorem lw_p41 : lw_okq (⟨"PairedStepsModel", "lays", "(I)V"⟩, 20) := ⟨⟨by decide +kernel, by decide +kernel⟩, List.mem_of_getElem? (i := 670) (by decide +kernel), List.mem_of_getElem? (i := 801) (by decide +kernel), List.mem_of_getElem? (i := 802) (by decide +kernel)⟩
theorem lw_p42 : lw_okq (⟨"PairedStepsModel", "takes", "(I)V"⟩, 20) := ⟨⟨by decide +kernel, by decide +kernel⟩, List.mem_of_getElem? (i := 670) (by decide +kernel), List.mem_of_getElem? (i := 809) (by decide +kernel), List.mem_of_getElem? (i := 810) (by decide +kernel)⟩
theorem lw_p43 : lw_okq (⟨"PairedStepsModel", "isStatement", "(II)Z"⟩, 20) := ⟨⟨by decide +kernel, by decide +kernel⟩, List.mem_of_getElem? (i := 670) (by decide +kernel), List.mem_of_getElem? (i := 821) (by decide +kernel), List.mem_of_getElem? (i := 822) (by decide +kernel)⟩
theorem lw_p44 : lw_okq (⟨"PairedStepsModel", "cuts", "(I)V"⟩, 20) := ⟨⟨by decide +kernel, by decide +kernel⟩, List.mem_of_getElem? (i := 670) (by decide +kernel), List.mem_of_getElem? (i := 825) (by decide +kernel), List.mem_of_getElem? (i := 826) (by decide +kernel)⟩
theorem lw_p45 : lw_okq (⟨"PairedStepsModel", "sizeOf", "(I)I"⟩, 20) := ⟨⟨by decide +kernel, by decide +kernel⟩, List.mem_of_getElem? (i := 670) (by decide +kernel), List.mem_of_getElem? (i := 829) (by decide +kernel), List.mem_of_getElem? (i := 830) (by decide +kernel)⟩
theorem lw_p46 : lw_okq (⟨"PairedStepsModel", "of", "(II)I"⟩, 20) := ⟨⟨by decide +kernel, by decide +kernel⟩, List.mem_of_getElem? (i := 670) (by decide +kernel), List.mem_of_getElem? (i := 833) (by decide +kernel), List.mem_of_getElem? (i := 834) (by decide +kernel)⟩
theorem lw_p47 : lw_okq (⟨"PairedStepsModel", "depthAll", "()I"⟩, 20) := ⟨⟨by decide +kernel, by decide +kernel⟩, List.mem_of_getElem? (i := 670) (by decide +kernel), List.mem_of_getElem? (i := 845) (by decide +kernel), List.mem_of_getElem? (i := 846) (by decide +kernel)⟩
def lw_privs_3 : List (MethodName × Nat) := [(⟨"PairedStepsModel", "readsAll", "()Z"⟩, 20), (⟨"PairedStepsModel", "here", "()I"⟩, 20), (⟨"PairedStepsModel", "readsStatement", "(II)Z"⟩, 20), (⟨"PairedStepsModel", "put", "(III)V"⟩, 20), (⟨"PairedStepsModel", "readsSetting", "(I)Z"⟩, 20), (⟨"PairedStepsModel", "readsCell", "(I)Z"⟩, 20), (⟨"PairedStepsModel", "passes", "(I)Z"⟩, 20), (⟨"PairedStepsModel", "readsTerm", "(II)Z"⟩, 20), (⟨"PairedStepsModel", "saves", "()V"⟩, 20), (⟨"PairedStepsModel", "lays", "(I)V"⟩, 20), (⟨"PairedStepsModel", "takes", "(I)V"⟩, 20), (⟨"PairedStepsModel", "isStatement", "(II)Z"⟩, 20), (⟨"PairedStepsModel", "cuts", "(I)V"⟩, 20), (⟨"PairedStepsModel", "sizeOf", "(I)I"⟩, 20), (⟨"PairedStepsModel", "of", "(II)I"⟩, 20), (⟨"PairedStepsModel", "depthAll", "()I"⟩, 20)]
theorem lw_r3 : ∀ q ∈ lw_privs_3, lw_okq q := List.forall_mem_cons.mpr ⟨lw_p32, List.forall_mem_cons.mpr ⟨lw_p33, List.forall_mem_cons.mpr ⟨lw_p34, List.forall_mem_cons.mpr ⟨lw_p35, List.forall_mem_cons.mpr ⟨lw_p36, List.forall_mem_cons.mpr ⟨lw_p37, List.forall_mem_cons.mpr ⟨lw_p38, List.forall_mem_cons.mpr ⟨lw_p39, List.forall_mem_cons.mpr ⟨lw_p40, List.forall_mem_cons.mpr ⟨lw_p41, List.forall_mem_cons.mpr ⟨lw_p42, List.forall_mem_cons.mpr ⟨lw_p43, List.forall_mem_cons.mpr ⟨lw_p44, List.forall_mem_cons.mpr ⟨lw_p45, List.forall_mem_cons.mpr ⟨lw_p46, List.forall_mem_cons.mpr ⟨lw_p47, fun _ h => absurd h List.not_mem_nil⟩⟩⟩⟩⟩⟩⟩⟩⟩⟩⟩⟩⟩⟩⟩⟩
theorem lw_p48 : lw_okq (⟨"PairedStepsModel", "canSet", "()I"⟩, 20) := ⟨⟨by decide +kernel, by decide +kernel⟩, List.mem_of_getElem? (i := 670) (by decide +kernel), List.mem_of_getElem? (i := 849) (by decide +kernel), List.mem_of_getElem? (i := 850) (by decide +kernel)⟩
theorem lw_p49 : lw_okq (⟨"PairedStepsModel", "ofKind", "(I)I"⟩, 20) := ⟨⟨by decide +kernel, by decide +kernel⟩, List.mem_of_getElem? (i := 670) (by decide +kernel), List.mem_of_getElem? (i := 853) (by decide +kernel), List.mem_of_getElem? (i := 854) (by decide +kernel)⟩
theorem lw_p50 : lw_okq (⟨"PairedStepsModel", "runsOne", "(III)V"⟩, 20) := ⟨⟨by decide +kernel, by decide +kernel⟩, List.mem_of_getElem? (i := 670) (by decide +kernel), List.mem_of_getElem? (i := 864) (by decide +kernel), List.mem_of_getElem? (i := 865) (by decide +kernel)⟩
theorem lw_p51 : lw_okq (⟨"PairedStepsModel", "runs", "(III)V"⟩, 20) := ⟨⟨by decide +kernel, by decide +kernel⟩, List.mem_of_getElem? (i := 670) (by decide +kernel), List.mem_of_getElem? (i := 868) (by decide +kernel), List.mem_of_getElem? (i := 869) (by decide +kernel)⟩
theorem lw_p52 : lw_okq (⟨"PairedStepsModel", "roundOf", "(II)V"⟩, 20) := ⟨⟨by decide +kernel, by decide +kernel⟩, List.mem_of_getElem? (i := 670) (by decide +kernel), List.mem_of_getElem? (i := 872) (by decide +kernel), List.mem_of_getElem? (i := 873) (by decide +kernel)⟩
theorem lw_p53 : lw_okq (⟨"PairedStepsModel", "does", "(III)V"⟩, 20) := ⟨⟨by decide +kernel, by decide +kernel⟩, List.mem_of_getElem? (i := 670) (by decide +kernel), List.mem_of_getElem? (i := 876) (by decide +kernel), List.mem_of_getElem? (i := 877) (by decide +kernel)⟩
theorem lw_p54 : lw_okq (⟨"PairedStepsModel", "sets", "(II)V"⟩, 20) := ⟨⟨by decide +kernel, by decide +kernel⟩, List.mem_of_getElem? (i := 670) (by decide +kernel), List.mem_of_getElem? (i := 880) (by decide +kernel), List.mem_of_getElem? (i := 881) (by decide +kernel)⟩
theorem lw_p55 : lw_okq (⟨"PairedStepsModel", "term", "(II)I"⟩, 20) := ⟨⟨by decide +kernel, by decide +kernel⟩, List.mem_of_getElem? (i := 670) (by decide +kernel), List.mem_of_getElem? (i := 884) (by decide +kernel), List.mem_of_getElem? (i := 885) (by decide +kernel)⟩
theorem lw_p56 : lw_okq (⟨"PairedStepsModel", "tellsCell", "(II)V"⟩, 20) := ⟨⟨by decide +kernel, by decide +kernel⟩, List.mem_of_getElem? (i := 670) (by decide +kernel), List.mem_of_getElem? (i := 891) (by decide +kernel), List.mem_of_getElem? (i := 892) (by decide +kernel)⟩
theorem lw_p57 : lw_okq (⟨"PairedStepsModel", "marks", "(I)V"⟩, 20) := ⟨⟨by decide +kernel, by decide +kernel⟩, List.mem_of_getElem? (i := 670) (by decide +kernel), List.mem_of_getElem? (i := 895) (by decide +kernel), List.mem_of_getElem? (i := 896) (by decide +kernel)⟩
theorem lw_p58 : lw_okq (⟨"PairedStepsModel", "runsBoth", "(II)V"⟩, 20) := ⟨⟨by decide +kernel, by decide +kernel⟩, List.mem_of_getElem? (i := 670) (by decide +kernel), List.mem_of_getElem? (i := 917) (by decide +kernel), List.mem_of_getElem? (i := 918) (by decide +kernel)⟩
theorem lw_p59 : lw_okq (⟨"PairedStepsModel", "pairMany", "()I"⟩, 20) := ⟨⟨by decide +kernel, by decide +kernel⟩, List.mem_of_getElem? (i := 670) (by decide +kernel), List.mem_of_getElem? (i := 921) (by decide +kernel), List.mem_of_getElem? (i := 922) (by decide +kernel)⟩
theorem lw_p60 : lw_okq (⟨"PairedStepsModel", "allEqual", "()I"⟩, 20) := ⟨⟨by decide +kernel, by decide +kernel⟩, List.mem_of_getElem? (i := 670) (by decide +kernel), List.mem_of_getElem? (i := 925) (by decide +kernel), List.mem_of_getElem? (i := 926) (by decide +kernel)⟩
theorem lw_p61 : lw_okq (⟨"PairedStepsModel", "isEqual", "(III)Z"⟩, 20) := ⟨⟨by decide +kernel, by decide +kernel⟩, List.mem_of_getElem? (i := 670) (by decide +kernel), List.mem_of_getElem? (i := 929) (by decide +kernel), List.mem_of_getElem? (i := 930) (by decide +kernel)⟩
theorem lw_p62 : lw_okq (⟨"PairedStepsModel", "greatestLead", "()I"⟩, 20) := ⟨⟨by decide +kernel, by decide +kernel⟩, List.mem_of_getElem? (i := 670) (by decide +kernel), List.mem_of_getElem? (i := 933) (by decide +kernel), List.mem_of_getElem? (i := 934) (by decide +kernel)⟩
theorem lw_p63 : lw_okq (⟨"PairedStepsModel", "leadOf", "(I)I"⟩, 20) := ⟨⟨by decide +kernel, by decide +kernel⟩, List.mem_of_getElem? (i := 670) (by decide +kernel), List.mem_of_getElem? (i := 937) (by decide +kernel), List.mem_of_getElem? (i := 938) (by decide +kernel)⟩
def lw_privs_4 : List (MethodName × Nat) := [(⟨"PairedStepsModel", "canSet", "()I"⟩, 20), (⟨"PairedStepsModel", "ofKind", "(I)I"⟩, 20), (⟨"PairedStepsModel", "runsOne", "(III)V"⟩, 20), (⟨"PairedStepsModel", "runs", "(III)V"⟩, 20), (⟨"PairedStepsModel", "roundOf", "(II)V"⟩, 20), (⟨"PairedStepsModel", "does", "(III)V"⟩, 20), (⟨"PairedStepsModel", "sets", "(II)V"⟩, 20), (⟨"PairedStepsModel", "term", "(II)I"⟩, 20), (⟨"PairedStepsModel", "tellsCell", "(II)V"⟩, 20), (⟨"PairedStepsModel", "marks", "(I)V"⟩, 20), (⟨"PairedStepsModel", "runsBoth", "(II)V"⟩, 20), (⟨"PairedStepsModel", "pairMany", "()I"⟩, 20), (⟨"PairedStepsModel", "allEqual", "()I"⟩, 20), (⟨"PairedStepsModel", "isEqual", "(III)Z"⟩, 20), (⟨"PairedStepsModel", "greatestLead", "()I"⟩, 20), (⟨"PairedStepsModel", "leadOf", "(I)I"⟩, 20)]
theorem lw_r4 : ∀ q ∈ lw_privs_4, lw_okq q := List.forall_mem_cons.mpr ⟨lw_p48, List.forall_mem_cons.mpr ⟨lw_p49, List.forall_mem_cons.mpr ⟨lw_p50, List.forall_mem_cons.mpr ⟨lw_p51, List.forall_mem_cons.mpr ⟨lw_p52, List.forall_mem_cons.mpr ⟨lw_p53, List.forall_mem_cons.mpr ⟨lw_p54, List.forall_mem_cons.mpr ⟨lw_p55, List.forall_mem_cons.mpr ⟨lw_p56, List.forall_mem_cons.mpr ⟨lw_p57, List.forall_mem_cons.mpr ⟨lw_p58, List.forall_mem_cons.mpr ⟨lw_p59, List.forall_mem_cons.mpr ⟨lw_p60, List.forall_mem_cons.mpr ⟨lw_p61, List.forall_mem_cons.mpr ⟨lw_p62, List.forall_mem_cons.mpr ⟨lw_p63, fun _ h => absurd h List.not_mem_nil⟩⟩⟩⟩⟩⟩⟩⟩⟩⟩⟩⟩⟩⟩⟩⟩
theorem lw_p64 : lw_okq (⟨"PairedStepsModel", "equalTo", "(I)I"⟩, 20) := ⟨⟨by decide +kernel, by decide +kernel⟩, List.mem_of_getElem? (i := 670) (by decide +kernel), List.mem_of_getElem? (i := 945) (by decide +kernel), List.mem_of_getElem? (i := 946) (by decide +kernel)⟩
theorem lw_p65 : lw_okq (⟨"PairedStepsModel", "firstDifference", "()I"⟩, 20) := ⟨⟨by decide +kernel, by decide +kernel⟩, List.mem_of_getElem? (i := 670) (by decide +kernel), List.mem_of_getElem? (i := 953) (by decide +kernel), List.mem_of_getElem? (i := 954) (by decide +kernel)⟩
theorem lw_p66 : lw_okq (⟨"PairedStepsModel", "agreeOn", "(II)Z"⟩, 20) := ⟨⟨by decide +kernel, by decide +kernel⟩, List.mem_of_getElem? (i := 670) (by decide +kernel), List.mem_of_getElem? (i := 961) (by decide +kernel), List.mem_of_getElem? (i := 962) (by decide +kernel)⟩
theorem lw_p67 : lw_okq (⟨"PairedStepsModel", "keeps", "(I)V"⟩, 20) := ⟨⟨by decide +kernel, by decide +kernel⟩, List.mem_of_getElem? (i := 670) (by decide +kernel), List.mem_of_getElem? (i := 973) (by decide +kernel), List.mem_of_getElem? (i := 974) (by decide +kernel)⟩
theorem lw_p68 : lw_okq (⟨"PairedStepsModel", "isIdle", "(II)Z"⟩, 20) := ⟨⟨by decide +kernel, by decide +kernel⟩, List.mem_of_getElem? (i := 670) (by decide +kernel), List.mem_of_getElem? (i := 977) (by decide +kernel), List.mem_of_getElem? (i := 978) (by decide +kernel)⟩
def lw_privs_5 : List (MethodName × Nat) := [(⟨"PairedStepsModel", "equalTo", "(I)I"⟩, 20), (⟨"PairedStepsModel", "firstDifference", "()I"⟩, 20), (⟨"PairedStepsModel", "agreeOn", "(II)Z"⟩, 20), (⟨"PairedStepsModel", "keeps", "(I)V"⟩, 20), (⟨"PairedStepsModel", "isIdle", "(II)Z"⟩, 20)]
theorem lw_r5 : ∀ q ∈ lw_privs_5, lw_okq q := List.forall_mem_cons.mpr ⟨lw_p64, List.forall_mem_cons.mpr ⟨lw_p65, List.forall_mem_cons.mpr ⟨lw_p66, List.forall_mem_cons.mpr ⟨lw_p67, List.forall_mem_cons.mpr ⟨lw_p68, fun _ h => absurd h List.not_mem_nil⟩⟩⟩⟩⟩
def lw_privs : List (MethodName × Nat) := lw_privs_1 ++ (lw_privs_2 ++ (lw_privs_3 ++ (lw_privs_4 ++ (lw_privs_5))))
def lw_tbl : List Cond := k2_sels lw_privs ++ tables_1
theorem lw_privs_ok : ∀ q ∈ lw_privs, lw_okq q := by
  show ∀ q ∈ lw_privs_1 ++ (lw_privs_2 ++ (lw_privs_3 ++ (lw_privs_4 ++ (lw_privs_5)))), lw_okq q
  exact List.forall_mem_append.mpr ⟨lw_r1, List.forall_mem_append.mpr ⟨lw_r2, List.forall_mem_append.mpr ⟨lw_r3, List.forall_mem_append.mpr ⟨lw_r4, lw_r5⟩⟩⟩⟩


def RX0 : String := "PairedSteps$History"
def TX0 : u_T := fun k => match k with
  | 0 => ("PairedSteps$History", "zeroths", "[LPairedSteps$Listing;", true)
  | 1 => ("PairedSteps$History", "others", "[LPairedSteps$Listing;", true)
  | _ => ("PairedSteps$History", "size", "I", false)
def tyX0 : Nat → FieldType := fun k => match k with
  | 0 => .array (.object "PairedSteps$Listing")
  | 1 => .array (.object "PairedSteps$Listing")
  | _ => .int
abbrev wsX00 : List Cond := u_ws RX0 TX0 3
theorem nmX0 : ∀ a, a < 3 → ∀ b, b < 3 → a ≠ b → (TX0 a).2.1 ≠ (TX0 b).2.1 := by decide +kernel
theorem tyX0_ok : ∀ k, k < 3 → parseFieldDescriptor (TX0 k).2.2.1 = some (tyX0 k) := by decide +kernel
abbrev cX0_init : ByteArray := prog_2_method_1_code
def yX0_init : MethodName := ⟨RX0, "<init>", "()V"⟩
abbrev cX0_push : ByteArray := prog_2_method_2_code
def yX0_push : MethodName := ⟨RX0, "push", "(LPairedSteps$Listing;LPairedSteps$Listing;)V"⟩
abbrev cX0_pop : ByteArray := prog_2_method_3_code
def yX0_pop : MethodName := ⟨RX0, "pop", "(LPairedSteps$Listing;LPairedSteps$Listing;)V"⟩
abbrev cX0_dropOldest : ByteArray := prog_2_method_4_code
def yX0_dropOldest : MethodName := ⟨RX0, "dropOldest", "()V"⟩
def RX1 : String := "PairedSteps$Listing"
def TX1 : u_T := fun k => match k with
  | 0 => ("PairedSteps$Listing", "size", "I", false)
  | 1 => ("PairedSteps$Listing", "kinds", "[I", true)
  | 2 => ("PairedSteps$Listing", "targets", "[I", true)
  | 3 => ("PairedSteps$Listing", "lefts", "[I", true)
  | 4 => ("PairedSteps$Listing", "operators", "[I", true)
  | 5 => ("PairedSteps$Listing", "rights", "[I", true)
  | 6 => ("PairedSteps$Listing", "outers", "[I", true)
  | 7 => ("PairedSteps$Listing", "middles", "[I", true)
  | 8 => ("PairedSteps$Listing", "ends", "[I", true)
  | _ => ("PairedSteps$Listing", "followers", "[I", true)
def tyX1 : Nat → FieldType := fun k => match k with
  | 0 => .int
  | 1 => .array .int
  | 2 => .array .int
  | 3 => .array .int
  | 4 => .array .int
  | 5 => .array .int
  | 6 => .array .int
  | 7 => .array .int
  | 8 => .array .int
  | _ => .array .int
abbrev wsX10 : List Cond := u_ws RX1 TX1 10
theorem nmX1 : ∀ a, a < 10 → ∀ b, b < 10 → a ≠ b → (TX1 a).2.1 ≠ (TX1 b).2.1 := by decide +kernel
theorem tyX1_ok : ∀ k, k < 10 → parseFieldDescriptor (TX1 k).2.2.1 = some (tyX1 k) := by decide +kernel
abbrev cX1_init : ByteArray := prog_3_method_1_code
def yX1_init : MethodName := ⟨RX1, "<init>", "()V"⟩
abbrev cX1_isFull : ByteArray := prog_3_method_2_code
def yX1_isFull : MethodName := ⟨RX1, "isFull", "()Z"⟩
abbrev cX1_holds : ByteArray := prog_3_method_3_code
def yX1_holds : MethodName := ⟨RX1, "holds", "(I)Z"⟩
abbrev cX1_add : ByteArray := prog_3_method_4_code
def yX1_add : MethodName := ⟨RX1, "add", "(III)Z"⟩
abbrev cX1_setTerms : ByteArray := prog_3_method_5_code
def yX1_setTerms : MethodName := ⟨RX1, "setTerms", "(III)V"⟩
abbrev cX1_endFirstPart : ByteArray := prog_3_method_6_code
def yX1_endFirstPart : MethodName := ⟨RX1, "endFirstPart", "(I)V"⟩
abbrev cX1_close : ByteArray := prog_3_method_7_code
def yX1_close : MethodName := ⟨RX1, "close", "(I)V"⟩
abbrev cX1_takeFrom : ByteArray := prog_3_method_8_code
def yX1_takeFrom : MethodName := ⟨RX1, "takeFrom", "(LPairedSteps$Listing;)V"⟩
abbrev cX1_remove : ByteArray := prog_3_method_9_code
def yX1_remove : MethodName := ⟨RX1, "remove", "(I)V"⟩
abbrev cX1_moveDown : ByteArray := prog_3_method_10_code
def yX1_moveDown : MethodName := ⟨RX1, "moveDown", "(II)V"⟩
abbrev cX1_placeWithout : ByteArray := prog_3_method_11_code
def yX1_placeWithout : MethodName := ⟨RX1, "placeWithout", "(III)I"⟩
abbrev cX1_link : ByteArray := prog_3_method_12_code
def yX1_link : MethodName := ⟨RX1, "link", "()V"⟩
abbrev cX1_followerOf : ByteArray := prog_3_method_13_code
def yX1_followerOf : MethodName := ⟨RX1, "followerOf", "(I)I"⟩
abbrev cX1_entered : ByteArray := prog_3_method_14_code
def yX1_entered : MethodName := ⟨RX1, "entered", "(I)I"⟩
abbrev cX1_passed : ByteArray := prog_3_method_15_code
def yX1_passed : MethodName := ⟨RX1, "passed", "(I)I"⟩
abbrev cX1_kindOf : ByteArray := prog_3_method_16_code
def yX1_kindOf : MethodName := ⟨RX1, "kindOf", "(I)I"⟩
abbrev cX1_targetOf : ByteArray := prog_3_method_17_code
def yX1_targetOf : MethodName := ⟨RX1, "targetOf", "(I)I"⟩
abbrev cX1_leftOf : ByteArray := prog_3_method_18_code
def yX1_leftOf : MethodName := ⟨RX1, "leftOf", "(I)I"⟩
abbrev cX1_operatorOf : ByteArray := prog_3_method_19_code
def yX1_operatorOf : MethodName := ⟨RX1, "operatorOf", "(I)I"⟩
abbrev cX1_rightOf : ByteArray := prog_3_method_20_code
def yX1_rightOf : MethodName := ⟨RX1, "rightOf", "(I)I"⟩
abbrev cX1_followerAt : ByteArray := prog_3_method_21_code
def yX1_followerAt : MethodName := ⟨RX1, "followerAt", "(I)I"⟩
abbrev cX1_item : ByteArray := prog_3_method_22_code
def yX1_item : MethodName := ⟨RX1, "item", "([II)I"⟩
abbrev cX1_tally : ByteArray := prog_3_method_23_code
def yX1_tally : MethodName := ⟨RX1, "tally", "(I)I"⟩
abbrev cX1_nesting : ByteArray := prog_3_method_24_code
def yX1_nesting : MethodName := ⟨RX1, "nesting", "()I"⟩
abbrev cX1_depthOf : ByteArray := prog_3_method_25_code
def yX1_depthOf : MethodName := ⟨RX1, "depthOf", "(I)I"⟩
abbrev cX1_settableCells : ByteArray := prog_3_method_26_code
def yX1_settableCells : MethodName := ⟨RX1, "settableCells", "()I"⟩
def RX2 : String := "PairedSteps$Output"
def TX2 : u_T := fun k => match k with
  | 0 => ("PairedSteps$Output", "values", "[I", true)
  | 1 => ("PairedSteps$Output", "total", "I", false)
  | _ => ("PairedSteps$Output", "cutOff", "Z", false)
def tyX2 : Nat → FieldType := fun k => match k with
  | 0 => .array .int
  | 1 => .int
  | _ => .boolean
abbrev wsX20 : List Cond := u_ws RX2 TX2 3
theorem nmX2 : ∀ a, a < 3 → ∀ b, b < 3 → a ≠ b → (TX2 a).2.1 ≠ (TX2 b).2.1 := by decide +kernel
theorem tyX2_ok : ∀ k, k < 3 → parseFieldDescriptor (TX2 k).2.2.1 = some (tyX2 k) := by decide +kernel
abbrev cX2_init : ByteArray := prog_4_method_1_code
def yX2_init : MethodName := ⟨RX2, "<init>", "()V"⟩
abbrev cX2_begin : ByteArray := prog_4_method_2_code
def yX2_begin : MethodName := ⟨RX2, "begin", "()V"⟩
abbrev cX2_add : ByteArray := prog_4_method_3_code
def yX2_add : MethodName := ⟨RX2, "add", "(I)V"⟩
abbrev cX2_takeFrom : ByteArray := prog_4_method_4_code
def yX2_takeFrom : MethodName := ⟨RX2, "takeFrom", "(LPairedSteps$Output;)V"⟩
abbrev cX2_valueAt : ByteArray := prog_4_method_5_code
def yX2_valueAt : MethodName := ⟨RX2, "valueAt", "(I)I"⟩
abbrev cX2_firstDifference : ByteArray := prog_4_method_6_code
def yX2_firstDifference : MethodName := ⟨RX2, "firstDifference", "(LPairedSteps$Output;)I"⟩
abbrev cX2_hasValuesOf : ByteArray := prog_4_method_7_code
def yX2_hasValuesOf : MethodName := ⟨RX2, "hasValuesOf", "(LPairedSteps$Output;)Z"⟩
def RX3 : String := "PairedSteps$Reader"
def TX3 : u_T := fun k => match k with
  | 0 => ("PairedSteps$Reader", "text", "LPairedSteps$Text;", true)
  | 1 => ("PairedSteps$Reader", "draft", "LPairedSteps$Listing;", true)
  | 2 => ("PairedSteps$Reader", "opened", "[I", true)
  | 3 => ("PairedSteps$Reader", "awaited", "[I", true)
  | 4 => ("PairedSteps$Reader", "depth", "I", false)
  | _ => ("PairedSteps$Reader", "place", "I", false)
def tyX3 : Nat → FieldType := fun k => match k with
  | 0 => .object "PairedSteps$Text"
  | 1 => .object "PairedSteps$Listing"
  | 2 => .array .int
  | 3 => .array .int
  | 4 => .int
  | _ => .int
abbrev wsX30 : List Cond := u_ws RX3 TX3 6
theorem nmX3 : ∀ a, a < 6 → ∀ b, b < 6 → a ≠ b → (TX3 a).2.1 ≠ (TX3 b).2.1 := by decide +kernel
theorem tyX3_ok : ∀ k, k < 6 → parseFieldDescriptor (TX3 k).2.2.1 = some (tyX3 k) := by decide +kernel
abbrev cX3_init : ByteArray := prog_5_method_1_code
def yX3_init : MethodName := ⟨RX3, "<init>", "(LPairedSteps$Text;LPairedSteps$Listing;)V"⟩
abbrev cX3_readDraft : ByteArray := prog_5_method_2_code
def yX3_readDraft : MethodName := ⟨RX3, "readDraft", "()Z"⟩
abbrev cX3_readStatement : ByteArray := prog_5_method_3_code
def yX3_readStatement : MethodName := ⟨RX3, "readStatement", "(I)Z"⟩
abbrev cX3_readTell : ByteArray := prog_5_method_4_code
def yX3_readTell : MethodName := ⟨RX3, "readTell", "()Z"⟩
abbrev cX3_readSetting : ByteArray := prog_5_method_5_code
def yX3_readSetting : MethodName := ⟨RX3, "readSetting", "()Z"⟩
abbrev cX3_readOpening : ByteArray := prog_5_method_6_code
def yX3_readOpening : MethodName := ⟨RX3, "readOpening", "(II)Z"⟩
abbrev cX3_goOn : ByteArray := prog_5_method_7_code
def yX3_goOn : MethodName := ⟨RX3, "goOn", "(I)V"⟩
abbrev cX3_innermost : ByteArray := prog_5_method_8_code
def yX3_innermost : MethodName := ⟨RX3, "innermost", "()I"⟩
abbrev cX3_awaitedSign : ByteArray := prog_5_method_9_code
def yX3_awaitedSign : MethodName := ⟨RX3, "awaitedSign", "()I"⟩
abbrev cX3_nextSign : ByteArray := prog_5_method_10_code
def yX3_nextSign : MethodName := ⟨RX3, "nextSign", "()I"⟩
abbrev cX3_take : ByteArray := prog_5_method_11_code
def yX3_take : MethodName := ⟨RX3, "take", "(I)Z"⟩
abbrev cX3_takeCell : ByteArray := prog_5_method_12_code
def yX3_takeCell : MethodName := ⟨RX3, "takeCell", "()I"⟩
abbrev cX3_takeOperator : ByteArray := prog_5_method_13_code
def yX3_takeOperator : MethodName := ⟨RX3, "takeOperator", "()I"⟩
abbrev cX3_takeTerm : ByteArray := prog_5_method_14_code
def yX3_takeTerm : MethodName := ⟨RX3, "takeTerm", "()I"⟩
abbrev cX3_takeNumber : ByteArray := prog_5_method_15_code
def yX3_takeNumber : MethodName := ⟨RX3, "takeNumber", "()I"⟩
abbrev cX3_isDigit : ByteArray := prog_5_method_16_code
def yX3_isDigit : MethodName := ⟨RX3, "isDigit", "(I)Z"⟩
def RX4 : String := "PairedSteps$Sides"
def TX4 : u_T := fun k => match k with
  | 0 => ("PairedSteps$Sides", "zeroth", "LPairedSteps$Trace;", true)
  | _ => ("PairedSteps$Sides", "other", "LPairedSteps$Trace;", true)
def tyX4 : Nat → FieldType := fun k => match k with
  | 0 => .object "PairedSteps$Trace"
  | _ => .object "PairedSteps$Trace"
abbrev wsX40 : List Cond := u_ws RX4 TX4 2
theorem nmX4 : ∀ a, a < 2 → ∀ b, b < 2 → a ≠ b → (TX4 a).2.1 ≠ (TX4 b).2.1 := by decide +kernel
theorem tyX4_ok : ∀ k, k < 2 → parseFieldDescriptor (TX4 k).2.2.1 = some (tyX4 k) := by decide +kernel
abbrev cX4_init : ByteArray := prog_6_method_1_code
def yX4_init : MethodName := ⟨RX4, "<init>", "()V"⟩
abbrev cX4_follow : ByteArray := prog_6_method_2_code
def yX4_follow : MethodName := ⟨RX4, "follow", "(LPairedSteps$Listing;LPairedSteps$Listing;II)V"⟩
abbrev cX4_pairsKept : ByteArray := prog_6_method_3_code
def yX4_pairsKept : MethodName := ⟨RX4, "pairsKept", "()I"⟩
abbrev cX4_leadAt : ByteArray := prog_6_method_4_code
def yX4_leadAt : MethodName := ⟨RX4, "leadAt", "(I)I"⟩
abbrev cX4_greatestLead : ByteArray := prog_6_method_5_code
def yX4_greatestLead : MethodName := ⟨RX4, "greatestLead", "()I"⟩
abbrev cX4_lastLead : ByteArray := prog_6_method_6_code
def yX4_lastLead : MethodName := ⟨RX4, "lastLead", "()I"⟩
abbrev cX4_evenPairs : ByteArray := prog_6_method_7_code
def yX4_evenPairs : MethodName := ⟨RX4, "evenPairs", "()I"⟩
abbrev cX4_isEven : ByteArray := prog_6_method_8_code
def yX4_isEven : MethodName := ⟨RX4, "isEven", "(I)Z"⟩
abbrev cX4_cellsEqualTo : ByteArray := prog_6_method_9_code
def yX4_cellsEqualTo : MethodName := ⟨RX4, "cellsEqualTo", "(I)I"⟩
abbrev cX4_isAlwaysSame : ByteArray := prog_6_method_10_code
def yX4_isAlwaysSame : MethodName := ⟨RX4, "isAlwaysSame", "(II)Z"⟩
abbrev cX4_inAgreement : ByteArray := prog_6_method_11_code
def yX4_inAgreement : MethodName := ⟨RX4, "inAgreement", "()Z"⟩
def RX5 : String := "PairedSteps$Text"
def TX5 : u_T := fun k => match k with
  | 0 => ("PairedSteps$Text", "signs", "[C", true)
  | _ => ("PairedSteps$Text", "length", "I", false)
def tyX5 : Nat → FieldType := fun k => match k with
  | 0 => .array .char
  | _ => .int
abbrev wsX50 : List Cond := u_ws RX5 TX5 2
theorem nmX5 : ∀ a, a < 2 → ∀ b, b < 2 → a ≠ b → (TX5 a).2.1 ≠ (TX5 b).2.1 := by decide +kernel
theorem tyX5_ok : ∀ k, k < 2 → parseFieldDescriptor (TX5 k).2.2.1 = some (tyX5 k) := by decide +kernel
abbrev cX5_init : ByteArray := prog_7_method_1_code
def yX5_init : MethodName := ⟨RX5, "<init>", "()V"⟩
abbrev cX5_isFull : ByteArray := prog_7_method_2_code
def yX5_isFull : MethodName := ⟨RX5, "isFull", "()Z"⟩
abbrev cX5_add : ByteArray := prog_7_method_3_code
def yX5_add : MethodName := ⟨RX5, "add", "(C)V"⟩
abbrev cX5_signAt : ByteArray := prog_7_method_4_code
def yX5_signAt : MethodName := ⟨RX5, "signAt", "(I)I"⟩
def RX6 : String := "PairedSteps$Trace"
def TX6 : u_T := fun k => match k with
  | 0 => ("PairedSteps$Trace", "output", "LPairedSteps$Output;", true)
  | 1 => ("PairedSteps$Trace", "cells", "[I", true)
  | 2 => ("PairedSteps$Trace", "cellsAtMarks", "[I", true)
  | 3 => ("PairedSteps$Trace", "stepsAhead", "[I", true)
  | 4 => ("PairedSteps$Trace", "roundsSince", "[I", true)
  | 5 => ("PairedSteps$Trace", "steps", "I", false)
  | 6 => ("PairedSteps$Trace", "marks", "I", false)
  | 7 => ("PairedSteps$Trace", "rounds", "I", false)
  | _ => ("PairedSteps$Trace", "mostRounds", "I", false)
def tyX6 : Nat → FieldType := fun k => match k with
  | 0 => .object "PairedSteps$Output"
  | 1 => .array .int
  | 2 => .array .int
  | 3 => .array .int
  | 4 => .array .int
  | 5 => .int
  | 6 => .int
  | 7 => .int
  | _ => .int
abbrev wsX60 : List Cond := u_ws RX6 TX6 9
theorem nmX6 : ∀ a, a < 9 → ∀ b, b < 9 → a ≠ b → (TX6 a).2.1 ≠ (TX6 b).2.1 := by decide +kernel
theorem tyX6_ok : ∀ k, k < 9 → parseFieldDescriptor (TX6 k).2.2.1 = some (tyX6 k) := by decide +kernel
abbrev cX6_init : ByteArray := prog_8_method_1_code
def yX6_init : MethodName := ⟨RX6, "<init>", "()V"⟩
abbrev cX6_follow : ByteArray := prog_8_method_2_code
def yX6_follow : MethodName := ⟨RX6, "follow", "(LPairedSteps$Listing;II)V"⟩
abbrev cX6_begin : ByteArray := prog_8_method_3_code
def yX6_begin : MethodName := ⟨RX6, "begin", "(II)V"⟩
abbrev cX6_stepFrom : ByteArray := prog_8_method_4_code
def yX6_stepFrom : MethodName := ⟨RX6, "stepFrom", "(LPairedSteps$Listing;I)I"⟩
abbrev cX6_look : ByteArray := prog_8_method_5_code
def yX6_look : MethodName := ⟨RX6, "look", "(LPairedSteps$Listing;I)I"⟩
abbrev cX6_resultOf : ByteArray := prog_8_method_6_code
def yX6_resultOf : MethodName := ⟨RX6, "resultOf", "(LPairedSteps$Listing;I)I"⟩
abbrev cX6_termValue : ByteArray := prog_8_method_7_code
def yX6_termValue : MethodName := ⟨RX6, "termValue", "(I)I"⟩
abbrev cX6_nearestValue : ByteArray := prog_8_method_8_code
def yX6_nearestValue : MethodName := ⟨RX6, "nearestValue", "(I)I"⟩
abbrev cX6_setCell : ByteArray := prog_8_method_9_code
def yX6_setCell : MethodName := ⟨RX6, "setCell", "(II)V"⟩
abbrev cX6_keepMark : ByteArray := prog_8_method_10_code
def yX6_keepMark : MethodName := ⟨RX6, "keepMark", "()V"⟩
abbrev cX6_marksKept : ByteArray := prog_8_method_11_code
def yX6_marksKept : MethodName := ⟨RX6, "marksKept", "()I"⟩
abbrev cX6_valueOf : ByteArray := prog_8_method_12_code
def yX6_valueOf : MethodName := ⟨RX6, "valueOf", "(I)I"⟩
abbrev cX6_cellAtMark : ByteArray := prog_8_method_13_code
def yX6_cellAtMark : MethodName := ⟨RX6, "cellAtMark", "(II)I"⟩
abbrev cX6_stepsAheadOf : ByteArray := prog_8_method_14_code
def yX6_stepsAheadOf : MethodName := ⟨RX6, "stepsAheadOf", "(I)I"⟩
def RX7 : String := "PairedSteps"
def TX7 : u_T := fun k => match k with
  | 0 => ("PairedSteps", "text", "LPairedSteps$Text;", true)
  | 1 => ("PairedSteps", "draft", "LPairedSteps$Listing;", true)
  | 2 => ("PairedSteps", "reader", "LPairedSteps$Reader;", true)
  | 3 => ("PairedSteps", "history", "LPairedSteps$History;", true)
  | 4 => ("PairedSteps", "sides", "LPairedSteps$Sides;", true)
  | 5 => ("PairedSteps", "outputsBefore", "[LPairedSteps$Output;", true)
  | 6 => ("PairedSteps", "zeroth", "LPairedSteps$Listing;", false)
  | _ => ("PairedSteps", "other", "LPairedSteps$Listing;", false)
def tyX7 : Nat → FieldType := fun k => match k with
  | 0 => .object "PairedSteps$Text"
  | 1 => .object "PairedSteps$Listing"
  | 2 => .object "PairedSteps$Reader"
  | 3 => .object "PairedSteps$History"
  | 4 => .object "PairedSteps$Sides"
  | 5 => .array (.object "PairedSteps$Output")
  | 6 => .object "PairedSteps$Listing"
  | _ => .object "PairedSteps$Listing"
abbrev wsX70 : List Cond := u_ws RX7 TX7 8
theorem nmX7 : ∀ a, a < 8 → ∀ b, b < 8 → a ≠ b → (TX7 a).2.1 ≠ (TX7 b).2.1 := by decide +kernel
theorem tyX7_ok : ∀ k, k < 8 → parseFieldDescriptor (TX7 k).2.2.1 = some (tyX7 k) := by decide +kernel
abbrev cX7_init : ByteArray := prog_1_method_1_code
def yX7_init : MethodName := ⟨RX7, "<init>", "()V"⟩
abbrev cX7_append : ByteArray := prog_1_method_2_code
def yX7_append : MethodName := ⟨RX7, "append", "(I)I"⟩
abbrev cX7_clearText : ByteArray := prog_1_method_3_code
def yX7_clearText : MethodName := ⟨RX7, "clearText", "()I"⟩
abbrev cX7_read : ByteArray := prog_1_method_4_code
def yX7_read : MethodName := ⟨RX7, "read", "(I)I"⟩
abbrev cX7_copy : ByteArray := prog_1_method_5_code
def yX7_copy : MethodName := ⟨RX7, "copy", "()I"⟩
abbrev cX7_exchange : ByteArray := prog_1_method_6_code
def yX7_exchange : MethodName := ⟨RX7, "exchange", "()I"⟩
abbrev cX7_cut : ByteArray := prog_1_method_7_code
def yX7_cut : MethodName := ⟨RX7, "cut", "(II)I"⟩
abbrev cX7_undo : ByteArray := prog_1_method_8_code
def yX7_undo : MethodName := ⟨RX7, "undo", "()I"⟩
abbrev cX7_count : ByteArray := prog_1_method_9_code
def yX7_count : MethodName := ⟨RX7, "count", "(I)I"⟩
abbrev cX7_program : ByteArray := prog_1_method_10_code
def yX7_program : MethodName := ⟨RX7, "program", "(II)I"⟩
abbrev cX7_run : ByteArray := prog_1_method_11_code
def yX7_run : MethodName := ⟨RX7, "run", "(IIII)I"⟩
abbrev cX7_told : ByteArray := prog_1_method_12_code
def yX7_told : MethodName := ⟨RX7, "told", "(IIII)I"⟩
abbrev cX7_cell : ByteArray := prog_1_method_13_code
def yX7_cell : MethodName := ⟨RX7, "cell", "(IIIII)I"⟩
abbrev cX7_pairs : ByteArray := prog_1_method_14_code
def yX7_pairs : MethodName := ⟨RX7, "pairs", "(III)I"⟩
abbrev cX7_equal : ByteArray := prog_1_method_15_code
def yX7_equal : MethodName := ⟨RX7, "equal", "(III)I"⟩
abbrev cX7_difference : ByteArray := prog_1_method_16_code
def yX7_difference : MethodName := ⟨RX7, "difference", "(II)I"⟩
abbrev cX7_agree : ByteArray := prog_1_method_17_code
def yX7_agree : MethodName := ⟨RX7, "agree", "(III)I"⟩
abbrev cX7_always : ByteArray := prog_1_method_18_code
def yX7_always : MethodName := ⟨RX7, "always", "(I)I"⟩
abbrev cX7_idle : ByteArray := prog_1_method_19_code
def yX7_idle : MethodName := ⟨RX7, "idle", "(I)I"⟩
abbrev cX7_keepOutputsOf : ByteArray := prog_1_method_20_code
def yX7_keepOutputsOf : MethodName := ⟨RX7, "keepOutputsOf", "(LPairedSteps$Listing;)V"⟩
abbrev cX7_putsOutAsBefore : ByteArray := prog_1_method_21_code
def yX7_putsOutAsBefore : MethodName := ⟨RX7, "putsOutAsBefore", "(LPairedSteps$Listing;)Z"⟩
abbrev cX7_listingOf : ByteArray := prog_1_method_22_code
def yX7_listingOf : MethodName := ⟨RX7, "listingOf", "(I)LPairedSteps$Listing;"⟩
abbrev cX7_traceOf : ByteArray := prog_1_method_23_code
def yX7_traceOf : MethodName := ⟨RX7, "traceOf", "(III)LPairedSteps$Trace;"⟩
abbrev cX7_triedFirst : ByteArray := prog_1_method_24_code
def yX7_triedFirst : MethodName := ⟨RX7, "triedFirst", "(I)I"⟩
abbrev cX7_triedSecond : ByteArray := prog_1_method_25_code
def yX7_triedSecond : MethodName := ⟨RX7, "triedSecond", "(I)I"⟩
abbrev cX7_isWithin : ByteArray := prog_1_method_26_code
def yX7_isWithin : MethodName := ⟨RX7, "isWithin", "(III)Z"⟩
abbrev cX7_isProgram : ByteArray := prog_1_method_27_code
def yX7_isProgram : MethodName := ⟨RX7, "isProgram", "(I)Z"⟩
abbrev cX7_isCell : ByteArray := prog_1_method_28_code
def yX7_isCell : MethodName := ⟨RX7, "isCell", "(I)Z"⟩
abbrev cX7_isInput : ByteArray := prog_1_method_29_code
def yX7_isInput : MethodName := ⟨RX7, "isInput", "(II)Z"⟩
def RX8 : String := "PairedStepsModel"
def TX8 : u_T := fun k => match k with
  | 0 => ("PairedStepsModel", "now", "[I", true)
  | 1 => ("PairedStepsModel", "past", "[I", true)
  | 2 => ("PairedStepsModel", "saved", "I", false)
  | 3 => ("PairedStepsModel", "text", "[I", true)
  | 4 => ("PairedStepsModel", "length", "I", false)
  | 5 => ("PairedStepsModel", "code", "[I", true)
  | 6 => ("PairedStepsModel", "at", "I", false)
  | 7 => ("PairedStepsModel", "open", "[I", true)
  | 8 => ("PairedStepsModel", "phase", "[I", true)
  | 9 => ("PairedStepsModel", "cells", "[I", true)
  | 10 => ("PairedStepsModel", "tells", "[I", true)
  | 11 => ("PairedStepsModel", "markSteps", "[I", true)
  | 12 => ("PairedStepsModel", "markCells", "[I", true)
  | 13 => ("PairedStepsModel", "numbers", "[I", true)
  | 14 => ("PairedStepsModel", "into", "[I", true)
  | 15 => ("PairedStepsModel", "until", "[I", true)
  | 16 => ("PairedStepsModel", "rounds", "[I", true)
  | 17 => ("PairedStepsModel", "before", "[I", true)
  | 18 => ("PairedStepsModel", "beforeMany", "[I", true)
  | _ => ("PairedStepsModel", "beforeCut", "[I", true)
def tyX8 : Nat → FieldType := fun k => match k with
  | 0 => .array .int
  | 1 => .array .int
  | 2 => .int
  | 3 => .array .int
  | 4 => .int
  | 5 => .array .int
  | 6 => .int
  | 7 => .array .int
  | 8 => .array .int
  | 9 => .array .int
  | 10 => .array .int
  | 11 => .array .int
  | 12 => .array .int
  | 13 => .array .int
  | 14 => .array .int
  | 15 => .array .int
  | 16 => .array .int
  | 17 => .array .int
  | 18 => .array .int
  | _ => .array .int
abbrev wsX80 : List Cond := u_ws RX8 TX8 20
theorem nmX8 : ∀ a, a < 20 → ∀ b, b < 20 → a ≠ b → (TX8 a).2.1 ≠ (TX8 b).2.1 := by decide +kernel
theorem tyX8_ok : ∀ k, k < 20 → parseFieldDescriptor (TX8 k).2.2.1 = some (tyX8 k) := by decide +kernel
abbrev cX8_init : ByteArray := prog_10_method_1_code
def yX8_init : MethodName := ⟨RX8, "<init>", "()V"⟩
abbrev cX8_within : ByteArray := prog_10_method_2_code
def yX8_within : MethodName := ⟨RX8, "within", "(III)Z"⟩
abbrev cX8_isProgram : ByteArray := prog_10_method_3_code
def yX8_isProgram : MethodName := ⟨RX8, "isProgram", "(I)Z"⟩
abbrev cX8_isInput : ByteArray := prog_10_method_4_code
def yX8_isInput : MethodName := ⟨RX8, "isInput", "(II)Z"⟩
abbrev cX8_isCell : ByteArray := prog_10_method_5_code
def yX8_isCell : MethodName := ⟨RX8, "isCell", "(I)Z"⟩
abbrev cX8_saves : ByteArray := prog_10_method_6_code
def yX8_saves : MethodName := ⟨RX8, "saves", "()V"⟩
abbrev cX8_undo : ByteArray := prog_10_method_7_code
def yX8_undo : MethodName := ⟨RX8, "undo", "()I"⟩
abbrev cX8_takes : ByteArray := prog_10_method_8_code
def yX8_takes : MethodName := ⟨RX8, "takes", "(I)V"⟩
abbrev cX8_lays : ByteArray := prog_10_method_9_code
def yX8_lays : MethodName := ⟨RX8, "lays", "(I)V"⟩
abbrev cX8_of : ByteArray := prog_10_method_10_code
def yX8_of : MethodName := ⟨RX8, "of", "(II)I"⟩
abbrev cX8_put : ByteArray := prog_10_method_11_code
def yX8_put : MethodName := ⟨RX8, "put", "(III)V"⟩
abbrev cX8_append : ByteArray := prog_10_method_12_code
def yX8_append : MethodName := ⟨RX8, "append", "(I)I"⟩
abbrev cX8_clearText : ByteArray := prog_10_method_13_code
def yX8_clearText : MethodName := ⟨RX8, "clearText", "()I"⟩
abbrev cX8_here : ByteArray := prog_10_method_14_code
def yX8_here : MethodName := ⟨RX8, "here", "()I"⟩
abbrev cX8_passes : ByteArray := prog_10_method_15_code
def yX8_passes : MethodName := ⟨RX8, "passes", "(I)Z"⟩
abbrev cX8_isLetter : ByteArray := prog_10_method_16_code
def yX8_isLetter : MethodName := ⟨RX8, "isLetter", "(I)Z"⟩
abbrev cX8_readsCell : ByteArray := prog_10_method_17_code
def yX8_readsCell : MethodName := ⟨RX8, "readsCell", "(I)Z"⟩
abbrev cX8_readsTerm : ByteArray := prog_10_method_18_code
def yX8_readsTerm : MethodName := ⟨RX8, "readsTerm", "(II)Z"⟩
abbrev cX8_readsSetting : ByteArray := prog_10_method_19_code
def yX8_readsSetting : MethodName := ⟨RX8, "readsSetting", "(I)Z"⟩
abbrev cX8_kindOf : ByteArray := prog_10_method_20_code
def yX8_kindOf : MethodName := ⟨RX8, "kindOf", "(I)I"⟩
abbrev cX8_readsStatement : ByteArray := prog_10_method_21_code
def yX8_readsStatement : MethodName := ⟨RX8, "readsStatement", "(II)Z"⟩
abbrev cX8_readsAll : ByteArray := prog_10_method_22_code
def yX8_readsAll : MethodName := ⟨RX8, "readsAll", "()Z"⟩
abbrev cX8_read : ByteArray := prog_10_method_23_code
def yX8_read : MethodName := ⟨RX8, "read", "(I)I"⟩
abbrev cX8_copy : ByteArray := prog_10_method_24_code
def yX8_copy : MethodName := ⟨RX8, "copy", "()I"⟩
abbrev cX8_exchange : ByteArray := prog_10_method_25_code
def yX8_exchange : MethodName := ⟨RX8, "exchange", "()I"⟩
abbrev cX8_sizeOf : ByteArray := prog_10_method_26_code
def yX8_sizeOf : MethodName := ⟨RX8, "sizeOf", "(I)I"⟩
abbrev cX8_cuts : ByteArray := prog_10_method_27_code
def yX8_cuts : MethodName := ⟨RX8, "cuts", "(I)V"⟩
abbrev cX8_isStatement : ByteArray := prog_10_method_28_code
def yX8_isStatement : MethodName := ⟨RX8, "isStatement", "(II)Z"⟩
abbrev cX8_cut : ByteArray := prog_10_method_29_code
def yX8_cut : MethodName := ⟨RX8, "cut", "(II)I"⟩
abbrev cX8_count : ByteArray := prog_10_method_30_code
def yX8_count : MethodName := ⟨RX8, "count", "(I)I"⟩
abbrev cX8_ofKind : ByteArray := prog_10_method_31_code
def yX8_ofKind : MethodName := ⟨RX8, "ofKind", "(I)I"⟩
abbrev cX8_depthAll : ByteArray := prog_10_method_32_code
def yX8_depthAll : MethodName := ⟨RX8, "depthAll", "()I"⟩
abbrev cX8_canSet : ByteArray := prog_10_method_33_code
def yX8_canSet : MethodName := ⟨RX8, "canSet", "()I"⟩
abbrev cX8_program : ByteArray := prog_10_method_34_code
def yX8_program : MethodName := ⟨RX8, "program", "(II)I"⟩
abbrev cX8_term : ByteArray := prog_10_method_35_code
def yX8_term : MethodName := ⟨RX8, "term", "(II)I"⟩
abbrev cX8_held : ByteArray := prog_10_method_36_code
def yX8_held : MethodName := ⟨RX8, "held", "(I)I"⟩
abbrev cX8_sets : ByteArray := prog_10_method_37_code
def yX8_sets : MethodName := ⟨RX8, "sets", "(II)V"⟩
abbrev cX8_tellsCell : ByteArray := prog_10_method_38_code
def yX8_tellsCell : MethodName := ⟨RX8, "tellsCell", "(II)V"⟩
abbrev cX8_marks : ByteArray := prog_10_method_39_code
def yX8_marks : MethodName := ⟨RX8, "marks", "(I)V"⟩
abbrev cX8_roundOf : ByteArray := prog_10_method_40_code
def yX8_roundOf : MethodName := ⟨RX8, "roundOf", "(II)V"⟩
abbrev cX8_runs : ByteArray := prog_10_method_41_code
def yX8_runs : MethodName := ⟨RX8, "runs", "(III)V"⟩
abbrev cX8_does : ByteArray := prog_10_method_42_code
def yX8_does : MethodName := ⟨RX8, "does", "(III)V"⟩
abbrev cX8_runsOne : ByteArray := prog_10_method_43_code
def yX8_runsOne : MethodName := ⟨RX8, "runsOne", "(III)V"⟩
abbrev cX8_least : ByteArray := prog_10_method_44_code
def yX8_least : MethodName := ⟨RX8, "least", "(II)I"⟩
abbrev cX8_run : ByteArray := prog_10_method_45_code
def yX8_run : MethodName := ⟨RX8, "run", "(IIII)I"⟩
abbrev cX8_told : ByteArray := prog_10_method_46_code
def yX8_told : MethodName := ⟨RX8, "told", "(IIII)I"⟩
abbrev cX8_cell : ByteArray := prog_10_method_47_code
def yX8_cell : MethodName := ⟨RX8, "cell", "(IIIII)I"⟩
abbrev cX8_runsBoth : ByteArray := prog_10_method_48_code
def yX8_runsBoth : MethodName := ⟨RX8, "runsBoth", "(II)V"⟩
abbrev cX8_pairMany : ByteArray := prog_10_method_49_code
def yX8_pairMany : MethodName := ⟨RX8, "pairMany", "()I"⟩
abbrev cX8_leadOf : ByteArray := prog_10_method_50_code
def yX8_leadOf : MethodName := ⟨RX8, "leadOf", "(I)I"⟩
abbrev cX8_greatestLead : ByteArray := prog_10_method_51_code
def yX8_greatestLead : MethodName := ⟨RX8, "greatestLead", "()I"⟩
abbrev cX8_isEqual : ByteArray := prog_10_method_52_code
def yX8_isEqual : MethodName := ⟨RX8, "isEqual", "(III)Z"⟩
abbrev cX8_allEqual : ByteArray := prog_10_method_53_code
def yX8_allEqual : MethodName := ⟨RX8, "allEqual", "()I"⟩
abbrev cX8_pairs : ByteArray := prog_10_method_54_code
def yX8_pairs : MethodName := ⟨RX8, "pairs", "(III)I"⟩
abbrev cX8_equalTo : ByteArray := prog_10_method_55_code
def yX8_equalTo : MethodName := ⟨RX8, "equalTo", "(I)I"⟩
abbrev cX8_equal : ByteArray := prog_10_method_56_code
def yX8_equal : MethodName := ⟨RX8, "equal", "(III)I"⟩
abbrev cX8_firstDifference : ByteArray := prog_10_method_57_code
def yX8_firstDifference : MethodName := ⟨RX8, "firstDifference", "()I"⟩
abbrev cX8_difference : ByteArray := prog_10_method_58_code
def yX8_difference : MethodName := ⟨RX8, "difference", "(II)I"⟩
abbrev cX8_agreeOn : ByteArray := prog_10_method_59_code
def yX8_agreeOn : MethodName := ⟨RX8, "agreeOn", "(II)Z"⟩
abbrev cX8_agree : ByteArray := prog_10_method_60_code
def yX8_agree : MethodName := ⟨RX8, "agree", "(III)I"⟩
abbrev cX8_always : ByteArray := prog_10_method_61_code
def yX8_always : MethodName := ⟨RX8, "always", "(I)I"⟩
abbrev cX8_keeps : ByteArray := prog_10_method_62_code
def yX8_keeps : MethodName := ⟨RX8, "keeps", "(I)V"⟩
abbrev cX8_isIdle : ByteArray := prog_10_method_63_code
def yX8_isIdle : MethodName := ⟨RX8, "isIdle", "(II)Z"⟩
abbrev cX8_idle : ByteArray := prog_10_method_64_code
def yX8_idle : MethodName := ⟨RX8, "idle", "(I)I"⟩
def RL : String := "PairedStepsLaw"
abbrev cL_law : ByteArray := code
def yL_law : MethodName := ⟨RL, "law", "([I)Z"⟩
abbrev vwCl : List vw_C := [(RX0, TX0, 3), (RX1, TX1, 10), (RX2, TX2, 3), (RX3, TX3, 6), (RX4, TX4, 2), (RX5, TX5, 2), (RX6, TX6, 9), (RX7, TX7, 8), (RX8, TX8, 20)]
end
section
def xNestB (w : Cond) : Bool := match w with | .fieldLinkNest .. => true | .methodLinkNest .. => true | _ => false
def xWB (w : Cond) : Bool := w.onTables && (goodWord w || xNestB w)
/-- the words of the tables that stay true: all that any method needs -/
def xWs : List Cond := lw_tbl.filter xWB
theorem xin {i : Nat} {w : Cond} (h : lw_tbl[i]? = some w) (hb : xWB w = true) : w ∈ xWs := List.mem_filter.mpr ⟨List.mem_of_getElem? h, hb⟩
theorem xinL {ws : List Cond} (ps : List Nat) (hp : ws = ps.filterMap (fun i => lw_tbl[i]?)) (h : ws.all xWB = true) : ∀ w ∈ ws, w ∈ xWs := by
  intro w hw
  have h1 := List.all_eq_true.mp h w hw
  rw [hp] at hw
  obtain ⟨i, -, hi⟩ := List.mem_filterMap.mp hw
  exact List.mem_filter.mpr ⟨List.mem_of_getElem? hi, h1⟩
def xNest : List Cond := [.methodLinkNest "PairedSteps" 11 ⟨"PairedSteps$Text", "<init>", "()V"⟩ "PairedSteps", .fieldLinkNest "PairedSteps" 71 "PairedSteps$Text" "length" "I" "PairedSteps", .methodLinkNest "PairedSteps" 18 ⟨"PairedSteps$Listing", "<init>", "()V"⟩ "PairedSteps", .fieldLinkNest "PairedSteps$Reader" 26 "PairedSteps$Listing" "size" "I" "PairedSteps", .fieldLinkNest "PairedSteps" 97 "PairedSteps$Listing" "size" "I" "PairedSteps", .fieldLinkNest "PairedSteps" 82 "PairedSteps$Reader" "place" "I" "PairedSteps", .methodLinkNest "PairedSteps$History" 20 ⟨"PairedSteps$Listing", "<init>", "()V"⟩ "PairedSteps", .fieldLinkNest "PairedSteps" 107 "PairedSteps$History" "size" "I" "PairedSteps", .methodLinkNest "PairedSteps" 41 ⟨"PairedSteps$Sides", "<init>", "()V"⟩ "PairedSteps", .methodLinkNest "PairedSteps$Sides" 11 ⟨"PairedSteps$Trace", "<init>", "()V"⟩ "PairedSteps", .methodLinkNest "PairedSteps$Trace" 11 ⟨"PairedSteps$Output", "<init>", "()V"⟩ "PairedSteps", .fieldLinkNest "PairedSteps" 143 "PairedSteps$Output" "total" "I" "PairedSteps", .fieldLinkNest "PairedSteps$Trace" 49 "PairedSteps$Output" "cutOff" "Z" "PairedSteps", .fieldLinkNest "PairedSteps$Sides" 66 "PairedSteps$Output" "cutOff" "Z" "PairedSteps", .fieldLinkNest "PairedSteps" 139 "PairedSteps$Output" "cutOff" "Z" "PairedSteps", .fieldLinkNest "PairedSteps$Sides" 62 "PairedSteps$Trace" "output" "LPairedSteps$Output;" "PairedSteps", .fieldLinkNest "PairedSteps" 135 "PairedSteps$Trace" "output" "LPairedSteps$Output;" "PairedSteps", .fieldLinkNest "PairedSteps" 130 "PairedSteps$Trace" "steps" "I" "PairedSteps", .fieldLinkNest "PairedSteps" 146 "PairedSteps$Trace" "marks" "I" "PairedSteps", .fieldLinkNest "PairedSteps" 149 "PairedSteps$Trace" "rounds" "I" "PairedSteps", .fieldLinkNest "PairedSteps" 152 "PairedSteps$Trace" "mostRounds" "I" "PairedSteps", .fieldLinkNest "PairedSteps" 187 "PairedSteps$Sides" "zeroth" "LPairedSteps$Trace;" "PairedSteps", .fieldLinkNest "PairedSteps" 190 "PairedSteps$Sides" "other" "LPairedSteps$Trace;" "PairedSteps", .methodLinkNest "PairedSteps" 52 ⟨"PairedSteps$Output", "<init>", "()V"⟩ "PairedSteps", .methodLinkNest "PairedSteps$Text" 19 ⟨"PairedSteps", "isWithin", "(III)Z"⟩ "PairedSteps", .methodLinkNest "PairedSteps$Reader" 93 ⟨"PairedSteps", "isWithin", "(III)Z"⟩ "PairedSteps", .methodLinkNest "PairedSteps$Reader" 108 ⟨"PairedSteps", "isCell", "(I)Z"⟩ "PairedSteps", .methodLinkNest "PairedSteps$Listing" 49 ⟨"PairedSteps", "isWithin", "(III)Z"⟩ "PairedSteps", .methodLinkNest "PairedSteps$History" 28 ⟨"PairedSteps", "isWithin", "(III)Z"⟩ "PairedSteps", .methodLinkNest "PairedSteps$Trace" 127 ⟨"PairedSteps", "isCell", "(I)Z"⟩ "PairedSteps", .methodLinkNest "PairedSteps$Output" 19 ⟨"PairedSteps", "isWithin", "(III)Z"⟩ "PairedSteps", .methodLinkNest "PairedSteps$Trace" 99 ⟨"PairedSteps", "isWithin", "(III)Z"⟩ "PairedSteps"]
theorem kc_L_7 : Cond.classLink RL 7 RX7 ∈ xWs := xin (i := 81) (by decide +kernel) (by decide +kernel)
theorem kp_inst_RX7 : Cond.instantiable RX7 8 ∈ xWs := xin (i := 82) (by decide +kernel) (by decide +kernel)
theorem kp_init_RX7 : Cond.initialized RX7 ∈ xWs := xin (i := 70) (by decide +kernel) (by decide +kernel)
theorem kc_L_10 : Cond.classLink RL 10 RX8 ∈ xWs := xin (i := 738) (by decide +kernel) (by decide +kernel)
theorem kp_inst_RX8 : Cond.instantiable RX8 20 ∈ xWs := xin (i := 739) (by decide +kernel) (by decide +kernel)
theorem kp_init_RX8 : Cond.initialized RX8 ∈ xWs := xin (i := 78) (by decide +kernel) (by decide +kernel)
theorem km_L_9 : Cond.methodLink RL 9 yX7_init ∈ xWs := xin (i := 83) (by decide +kernel) (by decide +kernel)
theorem kp_instanceMethod_yX7_init : Cond.instanceMethod yX7_init ∈ xWs := xin (i := 84) (by decide +kernel) (by decide +kernel)
theorem kp_code_yX7_init : Cond.code yX7_init cX7_init 2 none ∈ xWs := xin (i := 85) (by decide +kernel) (by decide +kernel)
theorem km_X7_3 : Cond.methodLink RX7 3 objectInit ∈ xWs := xin (i := 86) (by decide +kernel) (by decide +kernel)
theorem kp_instanceMethod_objectInit : Cond.instanceMethod objectInit ∈ xWs := xin (i := 87) (by decide +kernel) (by decide +kernel)
theorem kp_code_objectInit : Cond.code objectInit ⟨#[0xb1]⟩ 1 none ∈ xWs := xin (i := 88) (by decide +kernel) (by decide +kernel)
theorem kc_X7_9 : Cond.classLink RX7 9 RX5 ∈ xWs := xin (i := 89) (by decide +kernel) (by decide +kernel)
theorem kp_inst_RX5 : Cond.instantiable RX5 2 ∈ xWs := xin (i := 90) (by decide +kernel) (by decide +kernel)
theorem kp_init_RX5 : Cond.initialized RX5 ∈ xWs := xin (i := 71) (by decide +kernel) (by decide +kernel)
theorem kf_X7_12 : Cond.fieldLink RX7 12 "PairedSteps" "text" "LPairedSteps$Text;" ∈ xWs := xin (i := 268) (by decide +kernel) (by decide +kernel)
theorem kc_X7_16 : Cond.classLink RX7 16 RX1 ∈ xWs := xin (i := 104) (by decide +kernel) (by decide +kernel)
theorem kp_inst_RX1 : Cond.instantiable RX1 10 ∈ xWs := xin (i := 105) (by decide +kernel) (by decide +kernel)
theorem kp_init_RX1 : Cond.initialized RX1 ∈ xWs := xin (i := 72) (by decide +kernel) (by decide +kernel)
theorem kf_X7_19 : Cond.fieldLink RX7 19 "PairedSteps" "draft" "LPairedSteps$Listing;" ∈ xWs := xin (i := 269) (by decide +kernel) (by decide +kernel)
theorem kc_X7_23 : Cond.classLink RX7 23 RX3 ∈ xWs := xin (i := 144) (by decide +kernel) (by decide +kernel)
theorem kp_inst_RX3 : Cond.instantiable RX3 6 ∈ xWs := xin (i := 145) (by decide +kernel) (by decide +kernel)
theorem kp_init_RX3 : Cond.initialized RX3 ∈ xWs := xin (i := 73) (by decide +kernel) (by decide +kernel)
theorem kf_X7_28 : Cond.fieldLink RX7 28 "PairedSteps" "reader" "LPairedSteps$Reader;" ∈ xWs := xin (i := 270) (by decide +kernel) (by decide +kernel)
theorem kc_X7_32 : Cond.classLink RX7 32 RX0 ∈ xWs := xin (i := 170) (by decide +kernel) (by decide +kernel)
theorem kp_inst_RX0 : Cond.instantiable RX0 3 ∈ xWs := xin (i := 171) (by decide +kernel) (by decide +kernel)
theorem kp_init_RX0 : Cond.initialized RX0 ∈ xWs := xin (i := 74) (by decide +kernel) (by decide +kernel)
theorem kf_X7_35 : Cond.fieldLink RX7 35 "PairedSteps" "history" "LPairedSteps$History;" ∈ xWs := xin (i := 271) (by decide +kernel) (by decide +kernel)
theorem kc_X7_39 : Cond.classLink RX7 39 RX4 ∈ xWs := xin (i := 190) (by decide +kernel) (by decide +kernel)
theorem kp_inst_RX4 : Cond.instantiable RX4 2 ∈ xWs := xin (i := 191) (by decide +kernel) (by decide +kernel)
theorem kp_init_RX4 : Cond.initialized RX4 ∈ xWs := xin (i := 75) (by decide +kernel) (by decide +kernel)
theorem kf_X7_42 : Cond.fieldLink RX7 42 "PairedSteps" "sides" "LPairedSteps$Sides;" ∈ xWs := xin (i := 272) (by decide +kernel) (by decide +kernel)
theorem kc_X7_46 : Cond.classLink RX7 46 RX2 ∈ xWs := xin (i := 265) (by decide +kernel) (by decide +kernel)
theorem kf_X7_48 : Cond.fieldLink RX7 48 "PairedSteps" "outputsBefore" "[LPairedSteps$Output;" ∈ xWs := xin (i := 273) (by decide +kernel) (by decide +kernel)
theorem kp_inst_RX2 : Cond.instantiable RX2 3 ∈ xWs := xin (i := 203) (by decide +kernel) (by decide +kernel)
theorem kp_init_RX2 : Cond.initialized RX2 ∈ xWs := xin (i := 77) (by decide +kernel) (by decide +kernel)
theorem kf_X7_53 : Cond.fieldLink RX7 53 "PairedSteps" "zeroth" "LPairedSteps$Listing;" ∈ xWs := xin (i := 274) (by decide +kernel) (by decide +kernel)
theorem kf_X7_56 : Cond.fieldLink RX7 56 "PairedSteps" "other" "LPairedSteps$Listing;" ∈ xWs := xin (i := 275) (by decide +kernel) (by decide +kernel)
theorem kp_instanceMethod_yX5_init : Cond.instanceMethod yX5_init ∈ xWs := xin (i := 92) (by decide +kernel) (by decide +kernel)
theorem kp_code_yX5_init : Cond.code yX5_init cX5_init 1 none ∈ xWs := xin (i := 93) (by decide +kernel) (by decide +kernel)
theorem km_X5_3 : Cond.methodLink RX5 3 objectInit ∈ xWs := xin (i := 94) (by decide +kernel) (by decide +kernel)
theorem kf_X5_9 : Cond.fieldLink RX5 9 "PairedSteps$Text" "signs" "[C" ∈ xWs := xin (i := 95) (by decide +kernel) (by decide +kernel)
theorem kp_instanceMethod_yX1_init : Cond.instanceMethod yX1_init ∈ xWs := xin (i := 107) (by decide +kernel) (by decide +kernel)
theorem kp_code_yX1_init : Cond.code yX1_init cX1_init 1 none ∈ xWs := xin (i := 108) (by decide +kernel) (by decide +kernel)
theorem km_X1_3 : Cond.methodLink RX1 3 objectInit ∈ xWs := xin (i := 109) (by decide +kernel) (by decide +kernel)
theorem kf_X1_9 : Cond.fieldLink RX1 9 "PairedSteps$Listing" "kinds" "[I" ∈ xWs := xin (i := 113) (by decide +kernel) (by decide +kernel)
theorem kf_X1_15 : Cond.fieldLink RX1 15 "PairedSteps$Listing" "targets" "[I" ∈ xWs := xin (i := 114) (by decide +kernel) (by decide +kernel)
theorem kf_X1_18 : Cond.fieldLink RX1 18 "PairedSteps$Listing" "lefts" "[I" ∈ xWs := xin (i := 115) (by decide +kernel) (by decide +kernel)
theorem kf_X1_21 : Cond.fieldLink RX1 21 "PairedSteps$Listing" "operators" "[I" ∈ xWs := xin (i := 116) (by decide +kernel) (by decide +kernel)
theorem kf_X1_24 : Cond.fieldLink RX1 24 "PairedSteps$Listing" "rights" "[I" ∈ xWs := xin (i := 117) (by decide +kernel) (by decide +kernel)
theorem kf_X1_27 : Cond.fieldLink RX1 27 "PairedSteps$Listing" "outers" "[I" ∈ xWs := xin (i := 118) (by decide +kernel) (by decide +kernel)
theorem kf_X1_30 : Cond.fieldLink RX1 30 "PairedSteps$Listing" "middles" "[I" ∈ xWs := xin (i := 119) (by decide +kernel) (by decide +kernel)
theorem kf_X1_33 : Cond.fieldLink RX1 33 "PairedSteps$Listing" "ends" "[I" ∈ xWs := xin (i := 120) (by decide +kernel) (by decide +kernel)
theorem kf_X1_36 : Cond.fieldLink RX1 36 "PairedSteps$Listing" "followers" "[I" ∈ xWs := xin (i := 121) (by decide +kernel) (by decide +kernel)
theorem km_X7_25 : Cond.methodLink RX7 25 yX3_init ∈ xWs := xin (i := 146) (by decide +kernel) (by decide +kernel)
theorem kp_instanceMethod_yX3_init : Cond.instanceMethod yX3_init ∈ xWs := xin (i := 147) (by decide +kernel) (by decide +kernel)
theorem kp_code_yX3_init : Cond.code yX3_init cX3_init 3 none ∈ xWs := xin (i := 148) (by decide +kernel) (by decide +kernel)
theorem km_X3_3 : Cond.methodLink RX3 3 objectInit ∈ xWs := xin (i := 149) (by decide +kernel) (by decide +kernel)
theorem kf_X3_9 : Cond.fieldLink RX3 9 "PairedSteps$Reader" "opened" "[I" ∈ xWs := xin (i := 152) (by decide +kernel) (by decide +kernel)
theorem kf_X3_15 : Cond.fieldLink RX3 15 "PairedSteps$Reader" "awaited" "[I" ∈ xWs := xin (i := 153) (by decide +kernel) (by decide +kernel)
theorem kf_X3_18 : Cond.fieldLink RX3 18 "PairedSteps$Reader" "text" "LPairedSteps$Text;" ∈ xWs := xin (i := 150) (by decide +kernel) (by decide +kernel)
theorem kf_X3_22 : Cond.fieldLink RX3 22 "PairedSteps$Reader" "draft" "LPairedSteps$Listing;" ∈ xWs := xin (i := 151) (by decide +kernel) (by decide +kernel)
theorem km_X7_34 : Cond.methodLink RX7 34 yX0_init ∈ xWs := xin (i := 172) (by decide +kernel) (by decide +kernel)
theorem kp_instanceMethod_yX0_init : Cond.instanceMethod yX0_init ∈ xWs := xin (i := 173) (by decide +kernel) (by decide +kernel)
theorem kp_code_yX0_init : Cond.code yX0_init cX0_init 2 none ∈ xWs := xin (i := 174) (by decide +kernel) (by decide +kernel)
theorem km_X0_3 : Cond.methodLink RX0 3 objectInit ∈ xWs := xin (i := 175) (by decide +kernel) (by decide +kernel)
theorem kc_X0_9 : Cond.classLink RX0 9 RX1 ∈ xWs := xin (i := 176) (by decide +kernel) (by decide +kernel)
theorem kf_X0_11 : Cond.fieldLink RX0 11 "PairedSteps$History" "zeroths" "[LPairedSteps$Listing;" ∈ xWs := xin (i := 179) (by decide +kernel) (by decide +kernel)
theorem kf_X0_17 : Cond.fieldLink RX0 17 "PairedSteps$History" "others" "[LPairedSteps$Listing;" ∈ xWs := xin (i := 180) (by decide +kernel) (by decide +kernel)
theorem kp_instanceMethod_yX4_init : Cond.instanceMethod yX4_init ∈ xWs := xin (i := 193) (by decide +kernel) (by decide +kernel)
theorem kp_code_yX4_init : Cond.code yX4_init cX4_init 1 none ∈ xWs := xin (i := 194) (by decide +kernel) (by decide +kernel)
theorem km_X4_3 : Cond.methodLink RX4 3 objectInit ∈ xWs := xin (i := 195) (by decide +kernel) (by decide +kernel)
theorem kc_X4_9 : Cond.classLink RX4 9 RX6 ∈ xWs := xin (i := 196) (by decide +kernel) (by decide +kernel)
theorem kp_inst_RX6 : Cond.instantiable RX6 9 ∈ xWs := xin (i := 197) (by decide +kernel) (by decide +kernel)
theorem kp_init_RX6 : Cond.initialized RX6 ∈ xWs := xin (i := 76) (by decide +kernel) (by decide +kernel)
theorem kf_X4_12 : Cond.fieldLink RX4 12 "PairedSteps$Sides" "zeroth" "LPairedSteps$Trace;" ∈ xWs := xin (i := 256) (by decide +kernel) (by decide +kernel)
theorem kf_X4_18 : Cond.fieldLink RX4 18 "PairedSteps$Sides" "other" "LPairedSteps$Trace;" ∈ xWs := xin (i := 258) (by decide +kernel) (by decide +kernel)
theorem kp_instanceMethod_yX6_init : Cond.instanceMethod yX6_init ∈ xWs := xin (i := 199) (by decide +kernel) (by decide +kernel)
theorem kp_code_yX6_init : Cond.code yX6_init cX6_init 1 none ∈ xWs := xin (i := 200) (by decide +kernel) (by decide +kernel)
theorem km_X6_3 : Cond.methodLink RX6 3 objectInit ∈ xWs := xin (i := 201) (by decide +kernel) (by decide +kernel)
theorem kc_X6_9 : Cond.classLink RX6 9 RX2 ∈ xWs := xin (i := 202) (by decide +kernel) (by decide +kernel)
theorem kf_X6_12 : Cond.fieldLink RX6 12 "PairedSteps$Trace" "output" "LPairedSteps$Output;" ∈ xWs := xin (i := 222) (by decide +kernel) (by decide +kernel)
theorem kf_X6_18 : Cond.fieldLink RX6 18 "PairedSteps$Trace" "cells" "[I" ∈ xWs := xin (i := 225) (by decide +kernel) (by decide +kernel)
theorem kf_X6_22 : Cond.fieldLink RX6 22 "PairedSteps$Trace" "cellsAtMarks" "[I" ∈ xWs := xin (i := 226) (by decide +kernel) (by decide +kernel)
theorem kf_X6_25 : Cond.fieldLink RX6 25 "PairedSteps$Trace" "stepsAhead" "[I" ∈ xWs := xin (i := 227) (by decide +kernel) (by decide +kernel)
theorem kf_X6_28 : Cond.fieldLink RX6 28 "PairedSteps$Trace" "roundsSince" "[I" ∈ xWs := xin (i := 228) (by decide +kernel) (by decide +kernel)
theorem kp_instanceMethod_yX2_init : Cond.instanceMethod yX2_init ∈ xWs := xin (i := 205) (by decide +kernel) (by decide +kernel)
theorem kp_code_yX2_init : Cond.code yX2_init cX2_init 1 none ∈ xWs := xin (i := 206) (by decide +kernel) (by decide +kernel)
theorem km_X2_3 : Cond.methodLink RX2 3 objectInit ∈ xWs := xin (i := 207) (by decide +kernel) (by decide +kernel)
theorem kf_X2_9 : Cond.fieldLink RX2 9 "PairedSteps$Output" "values" "[I" ∈ xWs := xin (i := 208) (by decide +kernel) (by decide +kernel)
theorem km_L_12 : Cond.methodLink RL 12 yX8_init ∈ xWs := xin (i := 740) (by decide +kernel) (by decide +kernel)
theorem kp_instanceMethod_yX8_init : Cond.instanceMethod yX8_init ∈ xWs := xin (i := 741) (by decide +kernel) (by decide +kernel)
theorem kp_code_yX8_init : Cond.code yX8_init cX8_init 1 none ∈ xWs := xin (i := 742) (by decide +kernel) (by decide +kernel)
theorem km_X8_1 : Cond.methodLink RX8 1 objectInit ∈ xWs := xin (i := 743) (by decide +kernel) (by decide +kernel)
theorem kf_X8_7 : Cond.fieldLink RX8 7 "PairedStepsModel" "now" "[I" ∈ xWs := xin (i := 744) (by decide +kernel) (by decide +kernel)
theorem kf_X8_13 : Cond.fieldLink RX8 13 "PairedStepsModel" "past" "[I" ∈ xWs := xin (i := 745) (by decide +kernel) (by decide +kernel)
theorem kf_X8_16 : Cond.fieldLink RX8 16 "PairedStepsModel" "text" "[I" ∈ xWs := xin (i := 747) (by decide +kernel) (by decide +kernel)
theorem kf_X8_19 : Cond.fieldLink RX8 19 "PairedStepsModel" "code" "[I" ∈ xWs := xin (i := 749) (by decide +kernel) (by decide +kernel)
theorem kf_X8_22 : Cond.fieldLink RX8 22 "PairedStepsModel" "open" "[I" ∈ xWs := xin (i := 751) (by decide +kernel) (by decide +kernel)
theorem kf_X8_25 : Cond.fieldLink RX8 25 "PairedStepsModel" "phase" "[I" ∈ xWs := xin (i := 752) (by decide +kernel) (by decide +kernel)
theorem kf_X8_28 : Cond.fieldLink RX8 28 "PairedStepsModel" "cells" "[I" ∈ xWs := xin (i := 753) (by decide +kernel) (by decide +kernel)
theorem kf_X8_31 : Cond.fieldLink RX8 31 "PairedStepsModel" "tells" "[I" ∈ xWs := xin (i := 754) (by decide +kernel) (by decide +kernel)
theorem kf_X8_34 : Cond.fieldLink RX8 34 "PairedStepsModel" "markSteps" "[I" ∈ xWs := xin (i := 755) (by decide +kernel) (by decide +kernel)
theorem kf_X8_37 : Cond.fieldLink RX8 37 "PairedStepsModel" "markCells" "[I" ∈ xWs := xin (i := 756) (by decide +kernel) (by decide +kernel)
theorem kf_X8_40 : Cond.fieldLink RX8 40 "PairedStepsModel" "numbers" "[I" ∈ xWs := xin (i := 757) (by decide +kernel) (by decide +kernel)
theorem kf_X8_43 : Cond.fieldLink RX8 43 "PairedStepsModel" "into" "[I" ∈ xWs := xin (i := 758) (by decide +kernel) (by decide +kernel)
theorem kf_X8_46 : Cond.fieldLink RX8 46 "PairedStepsModel" "until" "[I" ∈ xWs := xin (i := 759) (by decide +kernel) (by decide +kernel)
theorem kf_X8_49 : Cond.fieldLink RX8 49 "PairedStepsModel" "rounds" "[I" ∈ xWs := xin (i := 760) (by decide +kernel) (by decide +kernel)
theorem kf_X8_52 : Cond.fieldLink RX8 52 "PairedStepsModel" "before" "[I" ∈ xWs := xin (i := 761) (by decide +kernel) (by decide +kernel)
theorem kf_X8_55 : Cond.fieldLink RX8 55 "PairedStepsModel" "beforeMany" "[I" ∈ xWs := xin (i := 762) (by decide +kernel) (by decide +kernel)
theorem kf_X8_58 : Cond.fieldLink RX8 58 "PairedStepsModel" "beforeCut" "[I" ∈ xWs := xin (i := 763) (by decide +kernel) (by decide +kernel)
theorem km_L_13 : Cond.methodLink RL 13 yX7_append ∈ xWs := xin (i := 293) (by decide +kernel) (by decide +kernel)
theorem kp_instanceMethod_yX7_append : Cond.instanceMethod yX7_append ∈ xWs := xin (i := 294) (by decide +kernel) (by decide +kernel)
theorem kp_selects_yX7_append : Cond.selects RX7 yX7_append yX7_append ∈ xWs := xin (i := 295) (by decide +kernel) (by decide +kernel)
theorem kp_code_yX7_append : Cond.code yX7_append cX7_append 2 (some .int) ∈ xWs := xin (i := 296) (by decide +kernel) (by decide +kernel)
theorem km_X7_59 : Cond.methodLink RX7 59 yX7_isWithin ∈ xWs := xin (i := 297) (by decide +kernel) (by decide +kernel)
theorem kp_static_yX7_isWithin : Cond.static yX7_isWithin ∈ xWs := xin (i := 298) (by decide +kernel) (by decide +kernel)
theorem kp_code_yX7_isWithin : Cond.code yX7_isWithin cX7_isWithin 3 (some .boolean) ∈ xWs := xin (i := 299) (by decide +kernel) (by decide +kernel)
theorem km_X7_63 : Cond.methodLink RX7 63 yX5_isFull ∈ xWs := xin (i := 300) (by decide +kernel) (by decide +kernel)
theorem kp_instanceMethod_yX5_isFull : Cond.instanceMethod yX5_isFull ∈ xWs := xin (i := 301) (by decide +kernel) (by decide +kernel)
theorem kp_selects_yX5_isFull : Cond.selects RX5 yX5_isFull yX5_isFull ∈ xWs := xin (i := 302) (by decide +kernel) (by decide +kernel)
theorem kp_code_yX5_isFull : Cond.code yX5_isFull cX5_isFull 1 (some .boolean) ∈ xWs := xin (i := 303) (by decide +kernel) (by decide +kernel)
theorem kf_X5_15 : Cond.fieldLink RX5 15 "PairedSteps$Text" "length" "I" ∈ xWs := xin (i := 96) (by decide +kernel) (by decide +kernel)
theorem km_X7_67 : Cond.methodLink RX7 67 yX5_add ∈ xWs := xin (i := 304) (by decide +kernel) (by decide +kernel)
theorem kp_instanceMethod_yX5_add : Cond.instanceMethod yX5_add ∈ xWs := xin (i := 305) (by decide +kernel) (by decide +kernel)
theorem kp_selects_yX5_add : Cond.selects RX5 yX5_add yX5_add ∈ xWs := xin (i := 306) (by decide +kernel) (by decide +kernel)
theorem kp_code_yX5_add : Cond.code yX5_add cX5_add 2 none ∈ xWs := xin (i := 307) (by decide +kernel) (by decide +kernel)
theorem km_L_17 : Cond.methodLink RL 17 yX8_append ∈ xWs := xin (i := 809) (by decide +kernel) (by decide +kernel)
theorem kp_instanceMethod_yX8_append : Cond.instanceMethod yX8_append ∈ xWs := xin (i := 810) (by decide +kernel) (by decide +kernel)
theorem kp_selects_yX8_append : Cond.selects RX8 yX8_append yX8_append ∈ xWs := xin (i := 811) (by decide +kernel) (by decide +kernel)
theorem kp_code_yX8_append : Cond.code yX8_append cX8_append 2 (some .int) ∈ xWs := xin (i := 812) (by decide +kernel) (by decide +kernel)
theorem kf_X8_69 : Cond.fieldLink RX8 69 "PairedStepsModel" "length" "I" ∈ xWs := xin (i := 748) (by decide +kernel) (by decide +kernel)
theorem km_X8_61 : Cond.methodLink RX8 61 yX8_within ∈ xWs := xin (i := 813) (by decide +kernel) (by decide +kernel)
theorem kp_static_yX8_within : Cond.static yX8_within ∈ xWs := xin (i := 814) (by decide +kernel) (by decide +kernel)
theorem kp_code_yX8_within : Cond.code yX8_within cX8_within 3 (some .boolean) ∈ xWs := xin (i := 815) (by decide +kernel) (by decide +kernel)
theorem km_L_18 : Cond.methodLink RL 18 yX7_clearText ∈ xWs := xin (i := 309) (by decide +kernel) (by decide +kernel)
theorem kp_instanceMethod_yX7_clearText : Cond.instanceMethod yX7_clearText ∈ xWs := xin (i := 310) (by decide +kernel) (by decide +kernel)
theorem kp_selects_yX7_clearText : Cond.selects RX7 yX7_clearText yX7_clearText ∈ xWs := xin (i := 311) (by decide +kernel) (by decide +kernel)
theorem kp_code_yX7_clearText : Cond.code yX7_clearText cX7_clearText 2 (some .int) ∈ xWs := xin (i := 312) (by decide +kernel) (by decide +kernel)
theorem km_L_22 : Cond.methodLink RL 22 yX8_clearText ∈ xWs := xin (i := 816) (by decide +kernel) (by decide +kernel)
theorem kp_instanceMethod_yX8_clearText : Cond.instanceMethod yX8_clearText ∈ xWs := xin (i := 817) (by decide +kernel) (by decide +kernel)
theorem kp_selects_yX8_clearText : Cond.selects RX8 yX8_clearText yX8_clearText ∈ xWs := xin (i := 818) (by decide +kernel) (by decide +kernel)
theorem kp_code_yX8_clearText : Cond.code yX8_clearText cX8_clearText 2 (some .int) ∈ xWs := xin (i := 819) (by decide +kernel) (by decide +kernel)
theorem km_L_23 : Cond.methodLink RL 23 yX7_read ∈ xWs := xin (i := 313) (by decide +kernel) (by decide +kernel)
theorem kp_instanceMethod_yX7_read : Cond.instanceMethod yX7_read ∈ xWs := xin (i := 314) (by decide +kernel) (by decide +kernel)
theorem kp_selects_yX7_read : Cond.selects RX7 yX7_read yX7_read ∈ xWs := xin (i := 315) (by decide +kernel) (by decide +kernel)
theorem kp_code_yX7_read : Cond.code yX7_read cX7_read 3 (some .int) ∈ xWs := xin (i := 316) (by decide +kernel) (by decide +kernel)
theorem km_X7_75 : Cond.methodLink RX7 75 yX7_isProgram ∈ xWs := xin (i := 317) (by decide +kernel) (by decide +kernel)
theorem kp_static_yX7_isProgram : Cond.static yX7_isProgram ∈ xWs := xin (i := 318) (by decide +kernel) (by decide +kernel)
theorem kp_code_yX7_isProgram : Cond.code yX7_isProgram cX7_isProgram 1 (some .boolean) ∈ xWs := xin (i := 319) (by decide +kernel) (by decide +kernel)
theorem km_X7_79 : Cond.methodLink RX7 79 yX3_readDraft ∈ xWs := xin (i := 320) (by decide +kernel) (by decide +kernel)
theorem kp_instanceMethod_yX3_readDraft : Cond.instanceMethod yX3_readDraft ∈ xWs := xin (i := 321) (by decide +kernel) (by decide +kernel)
theorem kp_selects_yX3_readDraft : Cond.selects RX3 yX3_readDraft yX3_readDraft ∈ xWs := xin (i := 322) (by decide +kernel) (by decide +kernel)
theorem kp_code_yX3_readDraft : Cond.code yX3_readDraft cX3_readDraft 3 (some .boolean) ∈ xWs := xin (i := 323) (by decide +kernel) (by decide +kernel)
theorem kf_X3_32 : Cond.fieldLink RX3 32 "PairedSteps$Reader" "depth" "I" ∈ xWs := xin (i := 154) (by decide +kernel) (by decide +kernel)
theorem kf_X3_35 : Cond.fieldLink RX3 35 "PairedSteps$Reader" "place" "I" ∈ xWs := xin (i := 155) (by decide +kernel) (by decide +kernel)
theorem km_X3_38 : Cond.methodLink RX3 38 yX3_nextSign ∈ xWs := xin (i := 324) (by decide +kernel) (by decide +kernel)
theorem kp_instanceMethod_yX3_nextSign : Cond.instanceMethod yX3_nextSign ∈ xWs := xin (i := 326) (by decide +kernel) (by decide +kernel)
theorem kp_selects_yX3_nextSign : Cond.selects RX3 yX3_nextSign yX3_nextSign ∈ xWs := xin (i := 0) (by decide +kernel) (by decide +kernel)
theorem kp_code_yX3_nextSign : Cond.code yX3_nextSign cX3_nextSign 2 (some .int) ∈ xWs := xin (i := 327) (by decide +kernel) (by decide +kernel)
theorem km_X3_102 : Cond.methodLink RX3 102 yX5_signAt ∈ xWs := xin (i := 328) (by decide +kernel) (by decide +kernel)
theorem kp_instanceMethod_yX5_signAt : Cond.instanceMethod yX5_signAt ∈ xWs := xin (i := 329) (by decide +kernel) (by decide +kernel)
theorem kp_selects_yX5_signAt : Cond.selects RX5 yX5_signAt yX5_signAt ∈ xWs := xin (i := 330) (by decide +kernel) (by decide +kernel)
theorem kp_code_yX5_signAt : Cond.code yX5_signAt cX5_signAt 2 (some .int) ∈ xWs := xin (i := 331) (by decide +kernel) (by decide +kernel)
theorem km_X5_23 : Cond.methodLink RX5 23 Lib.Math.min.name ∈ xWs := xin (i := 332) (by decide +kernel) (by decide +kernel)
theorem kp_static_Lib_Math_min_name : Cond.static Lib.Math.min.name ∈ xWs := xin (i := 333) (by decide +kernel) (by decide +kernel)
theorem kp_init_java_lang_Math : Cond.initialized "java/lang/Math" ∈ xWs := xin (i := 79) (by decide +kernel) (by decide +kernel)
theorem kp_code_Lib_Math_min_name : Cond.code Lib.Math.min.name Lib.Math.min.code 2 (some .int) ∈ xWs := xin (i := 334) (by decide +kernel) (by decide +kernel)
theorem km_X3_42 : Cond.methodLink RX3 42 yX3_awaitedSign ∈ xWs := xin (i := 335) (by decide +kernel) (by decide +kernel)
theorem kp_instanceMethod_yX3_awaitedSign : Cond.instanceMethod yX3_awaitedSign ∈ xWs := xin (i := 337) (by decide +kernel) (by decide +kernel)
theorem kp_selects_yX3_awaitedSign : Cond.selects RX3 yX3_awaitedSign yX3_awaitedSign ∈ xWs := xin (i := 1) (by decide +kernel) (by decide +kernel)
theorem kp_code_yX3_awaitedSign : Cond.code yX3_awaitedSign cX3_awaitedSign 1 (some .int) ∈ xWs := xin (i := 338) (by decide +kernel) (by decide +kernel)
theorem km_X3_45 : Cond.methodLink RX3 45 yX3_readStatement ∈ xWs := xin (i := 340) (by decide +kernel) (by decide +kernel)
theorem kp_instanceMethod_yX3_readStatement : Cond.instanceMethod yX3_readStatement ∈ xWs := xin (i := 342) (by decide +kernel) (by decide +kernel)
theorem kp_selects_yX3_readStatement : Cond.selects RX3 yX3_readStatement yX3_readStatement ∈ xWs := xin (i := 2) (by decide +kernel) (by decide +kernel)
theorem kp_code_yX3_readStatement : Cond.code yX3_readStatement cX3_readStatement 2 (some .boolean) ∈ xWs := xin (i := 343) (by decide +kernel) (by decide +kernel)
theorem km_X3_56 : Cond.methodLink RX3 56 yX1_isFull ∈ xWs := xin (i := 344) (by decide +kernel) (by decide +kernel)
theorem kp_instanceMethod_yX1_isFull : Cond.instanceMethod yX1_isFull ∈ xWs := xin (i := 345) (by decide +kernel) (by decide +kernel)
theorem kp_selects_yX1_isFull : Cond.selects RX1 yX1_isFull yX1_isFull ∈ xWs := xin (i := 346) (by decide +kernel) (by decide +kernel)
theorem kp_code_yX1_isFull : Cond.code yX1_isFull cX1_isFull 1 (some .boolean) ∈ xWs := xin (i := 347) (by decide +kernel) (by decide +kernel)
theorem kf_X1_39 : Cond.fieldLink RX1 39 "PairedSteps$Listing" "size" "I" ∈ xWs := xin (i := 110) (by decide +kernel) (by decide +kernel)
theorem km_X3_60 : Cond.methodLink RX3 60 yX3_readTell ∈ xWs := xin (i := 348) (by decide +kernel) (by decide +kernel)
theorem kp_instanceMethod_yX3_readTell : Cond.instanceMethod yX3_readTell ∈ xWs := xin (i := 350) (by decide +kernel) (by decide +kernel)
theorem kp_selects_yX3_readTell : Cond.selects RX3 yX3_readTell yX3_readTell ∈ xWs := xin (i := 3) (by decide +kernel) (by decide +kernel)
theorem kp_code_yX3_readTell : Cond.code yX3_readTell cX3_readTell 2 (some .boolean) ∈ xWs := xin (i := 351) (by decide +kernel) (by decide +kernel)
theorem km_X3_80 : Cond.methodLink RX3 80 yX3_takeCell ∈ xWs := xin (i := 352) (by decide +kernel) (by decide +kernel)
theorem kp_instanceMethod_yX3_takeCell : Cond.instanceMethod yX3_takeCell ∈ xWs := xin (i := 354) (by decide +kernel) (by decide +kernel)
theorem kp_selects_yX3_takeCell : Cond.selects RX3 yX3_takeCell yX3_takeCell ∈ xWs := xin (i := 4) (by decide +kernel) (by decide +kernel)
theorem kp_code_yX3_takeCell : Cond.code yX3_takeCell cX3_takeCell 2 (some .int) ∈ xWs := xin (i := 355) (by decide +kernel) (by decide +kernel)
theorem kp_static_yX7_isCell : Cond.static yX7_isCell ∈ xWs := xin (i := 357) (by decide +kernel) (by decide +kernel)
theorem kp_code_yX7_isCell : Cond.code yX7_isCell cX7_isCell 1 (some .boolean) ∈ xWs := xin (i := 358) (by decide +kernel) (by decide +kernel)
theorem km_X3_63 : Cond.methodLink RX3 63 yX3_take ∈ xWs := xin (i := 359) (by decide +kernel) (by decide +kernel)
theorem kp_instanceMethod_yX3_take : Cond.instanceMethod yX3_take ∈ xWs := xin (i := 361) (by decide +kernel) (by decide +kernel)
theorem kp_selects_yX3_take : Cond.selects RX3 yX3_take yX3_take ∈ xWs := xin (i := 5) (by decide +kernel) (by decide +kernel)
theorem kp_code_yX3_take : Cond.code yX3_take cX3_take 2 (some .boolean) ∈ xWs := xin (i := 362) (by decide +kernel) (by decide +kernel)
theorem km_X3_66 : Cond.methodLink RX3 66 yX3_innermost ∈ xWs := xin (i := 363) (by decide +kernel) (by decide +kernel)
theorem kp_instanceMethod_yX3_innermost : Cond.instanceMethod yX3_innermost ∈ xWs := xin (i := 365) (by decide +kernel) (by decide +kernel)
theorem kp_selects_yX3_innermost : Cond.selects RX3 yX3_innermost yX3_innermost ∈ xWs := xin (i := 6) (by decide +kernel) (by decide +kernel)
theorem kp_code_yX3_innermost : Cond.code yX3_innermost cX3_innermost 1 (some .int) ∈ xWs := xin (i := 366) (by decide +kernel) (by decide +kernel)
theorem km_X3_69 : Cond.methodLink RX3 69 yX1_add ∈ xWs := xin (i := 367) (by decide +kernel) (by decide +kernel)
theorem kp_instanceMethod_yX1_add : Cond.instanceMethod yX1_add ∈ xWs := xin (i := 368) (by decide +kernel) (by decide +kernel)
theorem kp_selects_yX1_add : Cond.selects RX1 yX1_add yX1_add ∈ xWs := xin (i := 369) (by decide +kernel) (by decide +kernel)
theorem kp_code_yX1_add : Cond.code yX1_add cX1_add 4 (some .boolean) ∈ xWs := xin (i := 370) (by decide +kernel) (by decide +kernel)
theorem km_X3_73 : Cond.methodLink RX3 73 yX3_readOpening ∈ xWs := xin (i := 372) (by decide +kernel) (by decide +kernel)
theorem kp_instanceMethod_yX3_readOpening : Cond.instanceMethod yX3_readOpening ∈ xWs := xin (i := 374) (by decide +kernel) (by decide +kernel)
theorem kp_selects_yX3_readOpening : Cond.selects RX3 yX3_readOpening yX3_readOpening ∈ xWs := xin (i := 7) (by decide +kernel) (by decide +kernel)
theorem kp_code_yX3_readOpening : Cond.code yX3_readOpening cX3_readOpening 4 (some .boolean) ∈ xWs := xin (i := 375) (by decide +kernel) (by decide +kernel)
theorem km_X3_77 : Cond.methodLink RX3 77 yX3_readSetting ∈ xWs := xin (i := 376) (by decide +kernel) (by decide +kernel)
theorem kp_instanceMethod_yX3_readSetting : Cond.instanceMethod yX3_readSetting ∈ xWs := xin (i := 378) (by decide +kernel) (by decide +kernel)
theorem kp_selects_yX3_readSetting : Cond.selects RX3 yX3_readSetting yX3_readSetting ∈ xWs := xin (i := 8) (by decide +kernel) (by decide +kernel)
theorem kp_code_yX3_readSetting : Cond.code yX3_readSetting cX3_readSetting 5 (some .boolean) ∈ xWs := xin (i := 379) (by decide +kernel) (by decide +kernel)
theorem km_X3_83 : Cond.methodLink RX3 83 yX3_takeTerm ∈ xWs := xin (i := 380) (by decide +kernel) (by decide +kernel)
theorem kp_instanceMethod_yX3_takeTerm : Cond.instanceMethod yX3_takeTerm ∈ xWs := xin (i := 382) (by decide +kernel) (by decide +kernel)
theorem kp_selects_yX3_takeTerm : Cond.selects RX3 yX3_takeTerm yX3_takeTerm ∈ xWs := xin (i := 9) (by decide +kernel) (by decide +kernel)
theorem kp_code_yX3_takeTerm : Cond.code yX3_takeTerm cX3_takeTerm 2 (some .int) ∈ xWs := xin (i := 383) (by decide +kernel) (by decide +kernel)
theorem km_X3_111 : Cond.methodLink RX3 111 yX3_isDigit ∈ xWs := xin (i := 384) (by decide +kernel) (by decide +kernel)
theorem kp_static_yX3_isDigit : Cond.static yX3_isDigit ∈ xWs := xin (i := 385) (by decide +kernel) (by decide +kernel)
theorem kp_code_yX3_isDigit : Cond.code yX3_isDigit cX3_isDigit 1 (some .boolean) ∈ xWs := xin (i := 386) (by decide +kernel) (by decide +kernel)
theorem km_X3_114 : Cond.methodLink RX3 114 yX3_takeNumber ∈ xWs := xin (i := 387) (by decide +kernel) (by decide +kernel)
theorem kp_instanceMethod_yX3_takeNumber : Cond.instanceMethod yX3_takeNumber ∈ xWs := xin (i := 389) (by decide +kernel) (by decide +kernel)
theorem kp_selects_yX3_takeNumber : Cond.selects RX3 yX3_takeNumber yX3_takeNumber ∈ xWs := xin (i := 10) (by decide +kernel) (by decide +kernel)
theorem kp_code_yX3_takeNumber : Cond.code yX3_takeNumber cX3_takeNumber 3 (some .int) ∈ xWs := xin (i := 390) (by decide +kernel) (by decide +kernel)
theorem km_X3_86 : Cond.methodLink RX3 86 yX3_takeOperator ∈ xWs := xin (i := 391) (by decide +kernel) (by decide +kernel)
theorem kp_instanceMethod_yX3_takeOperator : Cond.instanceMethod yX3_takeOperator ∈ xWs := xin (i := 393) (by decide +kernel) (by decide +kernel)
theorem kp_selects_yX3_takeOperator : Cond.selects RX3 yX3_takeOperator yX3_takeOperator ∈ xWs := xin (i := 11) (by decide +kernel) (by decide +kernel)
theorem kp_code_yX3_takeOperator : Cond.code yX3_takeOperator cX3_takeOperator 2 (some .int) ∈ xWs := xin (i := 394) (by decide +kernel) (by decide +kernel)
theorem km_X3_89 : Cond.methodLink RX3 89 yX1_setTerms ∈ xWs := xin (i := 395) (by decide +kernel) (by decide +kernel)
theorem kp_instanceMethod_yX1_setTerms : Cond.instanceMethod yX1_setTerms ∈ xWs := xin (i := 396) (by decide +kernel) (by decide +kernel)
theorem kp_selects_yX1_setTerms : Cond.selects RX1 yX1_setTerms yX1_setTerms ∈ xWs := xin (i := 397) (by decide +kernel) (by decide +kernel)
theorem kp_code_yX1_setTerms : Cond.code yX1_setTerms cX1_setTerms 5 none ∈ xWs := xin (i := 398) (by decide +kernel) (by decide +kernel)
theorem km_X1_53 : Cond.methodLink RX1 53 yX1_holds ∈ xWs := xin (i := 399) (by decide +kernel) (by decide +kernel)
theorem kp_instanceMethod_yX1_holds : Cond.instanceMethod yX1_holds ∈ xWs := xin (i := 400) (by decide +kernel) (by decide +kernel)
theorem kp_selects_yX1_holds : Cond.selects RX1 yX1_holds yX1_holds ∈ xWs := xin (i := 401) (by decide +kernel) (by decide +kernel)
theorem kp_code_yX1_holds : Cond.code yX1_holds cX1_holds 2 (some .boolean) ∈ xWs := xin (i := 402) (by decide +kernel) (by decide +kernel)
theorem km_X1_43 : Cond.methodLink RX1 43 Lib.Math.min.name ∈ xWs := xin (i := 403) (by decide +kernel) (by decide +kernel)
theorem km_X3_49 : Cond.methodLink RX3 49 yX1_link ∈ xWs := xin (i := 404) (by decide +kernel) (by decide +kernel)
theorem kp_instanceMethod_yX1_link : Cond.instanceMethod yX1_link ∈ xWs := xin (i := 405) (by decide +kernel) (by decide +kernel)
theorem kp_selects_yX1_link : Cond.selects RX1 yX1_link yX1_link ∈ xWs := xin (i := 406) (by decide +kernel) (by decide +kernel)
theorem kp_code_yX1_link : Cond.code yX1_link cX1_link 2 none ∈ xWs := xin (i := 407) (by decide +kernel) (by decide +kernel)
theorem km_X1_74 : Cond.methodLink RX1 74 yX1_followerOf ∈ xWs := xin (i := 408) (by decide +kernel) (by decide +kernel)
theorem kp_instanceMethod_yX1_followerOf : Cond.instanceMethod yX1_followerOf ∈ xWs := xin (i := 410) (by decide +kernel) (by decide +kernel)
theorem kp_selects_yX1_followerOf : Cond.selects RX1 yX1_followerOf yX1_followerOf ∈ xWs := xin (i := 12) (by decide +kernel) (by decide +kernel)
theorem kp_code_yX1_followerOf : Cond.code yX1_followerOf cX1_followerOf 5 (some .int) ∈ xWs := xin (i := 411) (by decide +kernel) (by decide +kernel)
theorem km_X1_78 : Cond.methodLink RX1 78 yX1_item ∈ xWs := xin (i := 412) (by decide +kernel) (by decide +kernel)
theorem kp_instanceMethod_yX1_item : Cond.instanceMethod yX1_item ∈ xWs := xin (i := 414) (by decide +kernel) (by decide +kernel)
theorem kp_selects_yX1_item : Cond.selects RX1 yX1_item yX1_item ∈ xWs := xin (i := 13) (by decide +kernel) (by decide +kernel)
theorem kp_code_yX1_item : Cond.code yX1_item cX1_item 3 (some .int) ∈ xWs := xin (i := 415) (by decide +kernel) (by decide +kernel)
theorem km_X3_52 : Cond.methodLink RX3 52 yX3_goOn ∈ xWs := xin (i := 416) (by decide +kernel) (by decide +kernel)
theorem kp_instanceMethod_yX3_goOn : Cond.instanceMethod yX3_goOn ∈ xWs := xin (i := 418) (by decide +kernel) (by decide +kernel)
theorem kp_selects_yX3_goOn : Cond.selects RX3 yX3_goOn yX3_goOn ∈ xWs := xin (i := 14) (by decide +kernel) (by decide +kernel)
theorem kp_code_yX3_goOn : Cond.code yX3_goOn cX3_goOn 2 none ∈ xWs := xin (i := 419) (by decide +kernel) (by decide +kernel)
theorem km_X3_96 : Cond.methodLink RX3 96 yX1_endFirstPart ∈ xWs := xin (i := 420) (by decide +kernel) (by decide +kernel)
theorem kp_instanceMethod_yX1_endFirstPart : Cond.instanceMethod yX1_endFirstPart ∈ xWs := xin (i := 421) (by decide +kernel) (by decide +kernel)
theorem kp_selects_yX1_endFirstPart : Cond.selects RX1 yX1_endFirstPart yX1_endFirstPart ∈ xWs := xin (i := 422) (by decide +kernel) (by decide +kernel)
theorem kp_code_yX1_endFirstPart : Cond.code yX1_endFirstPart cX1_endFirstPart 2 none ∈ xWs := xin (i := 423) (by decide +kernel) (by decide +kernel)
theorem km_X3_99 : Cond.methodLink RX3 99 yX1_close ∈ xWs := xin (i := 424) (by decide +kernel) (by decide +kernel)
theorem kp_instanceMethod_yX1_close : Cond.instanceMethod yX1_close ∈ xWs := xin (i := 425) (by decide +kernel) (by decide +kernel)
theorem kp_selects_yX1_close : Cond.selects RX1 yX1_close yX1_close ∈ xWs := xin (i := 426) (by decide +kernel) (by decide +kernel)
theorem kp_code_yX1_close : Cond.code yX1_close cX1_close 2 none ∈ xWs := xin (i := 427) (by decide +kernel) (by decide +kernel)
theorem km_X7_85 : Cond.methodLink RX7 85 yX0_push ∈ xWs := xin (i := 428) (by decide +kernel) (by decide +kernel)
theorem kp_instanceMethod_yX0_push : Cond.instanceMethod yX0_push ∈ xWs := xin (i := 429) (by decide +kernel) (by decide +kernel)
theorem kp_selects_yX0_push : Cond.selects RX0 yX0_push yX0_push ∈ xWs := xin (i := 430) (by decide +kernel) (by decide +kernel)
theorem kp_code_yX0_push : Cond.code yX0_push cX0_push 3 none ∈ xWs := xin (i := 431) (by decide +kernel) (by decide +kernel)
theorem kf_X0_21 : Cond.fieldLink RX0 21 "PairedSteps$History" "size" "I" ∈ xWs := xin (i := 181) (by decide +kernel) (by decide +kernel)
theorem km_X0_25 : Cond.methodLink RX0 25 yX0_dropOldest ∈ xWs := xin (i := 432) (by decide +kernel) (by decide +kernel)
theorem kp_instanceMethod_yX0_dropOldest : Cond.instanceMethod yX0_dropOldest ∈ xWs := xin (i := 434) (by decide +kernel) (by decide +kernel)
theorem kp_selects_yX0_dropOldest : Cond.selects RX0 yX0_dropOldest yX0_dropOldest ∈ xWs := xin (i := 15) (by decide +kernel) (by decide +kernel)
theorem kp_code_yX0_dropOldest : Cond.code yX0_dropOldest cX0_dropOldest 4 none ∈ xWs := xin (i := 435) (by decide +kernel) (by decide +kernel)
theorem km_X0_32 : Cond.methodLink RX0 32 yX1_takeFrom ∈ xWs := xin (i := 437) (by decide +kernel) (by decide +kernel)
theorem kp_instanceMethod_yX1_takeFrom : Cond.instanceMethod yX1_takeFrom ∈ xWs := xin (i := 438) (by decide +kernel) (by decide +kernel)
theorem kp_selects_yX1_takeFrom : Cond.selects RX1 yX1_takeFrom yX1_takeFrom ∈ xWs := xin (i := 439) (by decide +kernel) (by decide +kernel)
theorem kp_code_yX1_takeFrom : Cond.code yX1_takeFrom cX1_takeFrom 2 none ∈ xWs := xin (i := 440) (by decide +kernel) (by decide +kernel)
theorem km_X1_57 : Cond.methodLink RX1 57 arraycopyName ∈ xWs := xin (i := 441) (by decide +kernel) (by decide +kernel)
theorem kp_native_arraycopyName : Cond.native arraycopyName ∈ xWs := xin (i := 443) (by decide +kernel) (by decide +kernel)
theorem kp_static_arraycopyName : Cond.static arraycopyName ∈ xWs := xin (i := 442) (by decide +kernel) (by decide +kernel)
theorem kp_init_java_lang_System : Cond.initialized "java/lang/System" ∈ xWs := xin (i := 80) (by decide +kernel) (by decide +kernel)
theorem km_X7_89 : Cond.methodLink RX7 89 yX7_listingOf ∈ xWs := xin (i := 444) (by decide +kernel) (by decide +kernel)
theorem kp_instanceMethod_yX7_listingOf : Cond.instanceMethod yX7_listingOf ∈ xWs := xin (i := 446) (by decide +kernel) (by decide +kernel)
theorem kp_selects_yX7_listingOf : Cond.selects RX7 yX7_listingOf yX7_listingOf ∈ xWs := xin (i := 16) (by decide +kernel) (by decide +kernel)
theorem kp_code_yX7_listingOf : Cond.code yX7_listingOf cX7_listingOf 2 (some (.object "PairedSteps$Listing")) ∈ xWs := xin (i := 447) (by decide +kernel) (by decide +kernel)
theorem km_X7_93 : Cond.methodLink RX7 93 yX1_takeFrom ∈ xWs := xin (i := 448) (by decide +kernel) (by decide +kernel)
theorem km_L_26 : Cond.methodLink RL 26 yX8_read ∈ xWs := xin (i := 820) (by decide +kernel) (by decide +kernel)
theorem kp_instanceMethod_yX8_read : Cond.instanceMethod yX8_read ∈ xWs := xin (i := 821) (by decide +kernel) (by decide +kernel)
theorem kp_selects_yX8_read : Cond.selects RX8 yX8_read yX8_read ∈ xWs := xin (i := 822) (by decide +kernel) (by decide +kernel)
theorem kp_code_yX8_read : Cond.code yX8_read cX8_read 2 (some .int) ∈ xWs := xin (i := 823) (by decide +kernel) (by decide +kernel)
theorem kf_X8_72 : Cond.fieldLink RX8 72 "PairedStepsModel" "at" "I" ∈ xWs := xin (i := 750) (by decide +kernel) (by decide +kernel)
theorem km_X8_107 : Cond.methodLink RX8 107 yX8_isProgram ∈ xWs := xin (i := 824) (by decide +kernel) (by decide +kernel)
theorem kp_static_yX8_isProgram : Cond.static yX8_isProgram ∈ xWs := xin (i := 825) (by decide +kernel) (by decide +kernel)
theorem kp_code_yX8_isProgram : Cond.code yX8_isProgram cX8_isProgram 1 (some .boolean) ∈ xWs := xin (i := 826) (by decide +kernel) (by decide +kernel)
theorem km_X8_110 : Cond.methodLink RX8 110 yX8_readsAll ∈ xWs := xin (i := 827) (by decide +kernel) (by decide +kernel)
theorem kp_instanceMethod_yX8_readsAll : Cond.instanceMethod yX8_readsAll ∈ xWs := xin (i := 829) (by decide +kernel) (by decide +kernel)
theorem kp_selects_yX8_readsAll : Cond.selects RX8 yX8_readsAll yX8_readsAll ∈ xWs := xin (i := 32) (by decide +kernel) (by decide +kernel)
theorem kp_code_yX8_readsAll : Cond.code yX8_readsAll cX8_readsAll 5 (some .boolean) ∈ xWs := xin (i := 830) (by decide +kernel) (by decide +kernel)
theorem km_X8_75 : Cond.methodLink RX8 75 yX8_here ∈ xWs := xin (i := 831) (by decide +kernel) (by decide +kernel)
theorem kp_instanceMethod_yX8_here : Cond.instanceMethod yX8_here ∈ xWs := xin (i := 833) (by decide +kernel) (by decide +kernel)
theorem kp_selects_yX8_here : Cond.selects RX8 yX8_here yX8_here ∈ xWs := xin (i := 33) (by decide +kernel) (by decide +kernel)
theorem kp_code_yX8_here : Cond.code yX8_here cX8_here 1 (some .int) ∈ xWs := xin (i := 834) (by decide +kernel) (by decide +kernel)
theorem km_X8_100 : Cond.methodLink RX8 100 yX8_kindOf ∈ xWs := xin (i := 835) (by decide +kernel) (by decide +kernel)
theorem kp_static_yX8_kindOf : Cond.static yX8_kindOf ∈ xWs := xin (i := 836) (by decide +kernel) (by decide +kernel)
theorem kp_code_yX8_kindOf : Cond.code yX8_kindOf cX8_kindOf 1 (some .int) ∈ xWs := xin (i := 837) (by decide +kernel) (by decide +kernel)
theorem km_X8_79 : Cond.methodLink RX8 79 yX8_isLetter ∈ xWs := xin (i := 838) (by decide +kernel) (by decide +kernel)
theorem kp_static_yX8_isLetter : Cond.static yX8_isLetter ∈ xWs := xin (i := 839) (by decide +kernel) (by decide +kernel)
theorem kp_code_yX8_isLetter : Cond.code yX8_isLetter cX8_isLetter 1 (some .boolean) ∈ xWs := xin (i := 840) (by decide +kernel) (by decide +kernel)
theorem km_X8_104 : Cond.methodLink RX8 104 yX8_readsStatement ∈ xWs := xin (i := 841) (by decide +kernel) (by decide +kernel)
theorem kp_instanceMethod_yX8_readsStatement : Cond.instanceMethod yX8_readsStatement ∈ xWs := xin (i := 843) (by decide +kernel) (by decide +kernel)
theorem kp_selects_yX8_readsStatement : Cond.selects RX8 yX8_readsStatement yX8_readsStatement ∈ xWs := xin (i := 34) (by decide +kernel) (by decide +kernel)
theorem kp_code_yX8_readsStatement : Cond.code yX8_readsStatement cX8_readsStatement 5 (some .boolean) ∈ xWs := xin (i := 844) (by decide +kernel) (by decide +kernel)
theorem km_X8_83 : Cond.methodLink RX8 83 yX8_put ∈ xWs := xin (i := 845) (by decide +kernel) (by decide +kernel)
theorem kp_instanceMethod_yX8_put : Cond.instanceMethod yX8_put ∈ xWs := xin (i := 847) (by decide +kernel) (by decide +kernel)
theorem kp_selects_yX8_put : Cond.selects RX8 yX8_put yX8_put ∈ xWs := xin (i := 35) (by decide +kernel) (by decide +kernel)
theorem kp_code_yX8_put : Cond.code yX8_put cX8_put 4 none ∈ xWs := xin (i := 848) (by decide +kernel) (by decide +kernel)
theorem km_X8_97 : Cond.methodLink RX8 97 yX8_readsSetting ∈ xWs := xin (i := 849) (by decide +kernel) (by decide +kernel)
theorem kp_instanceMethod_yX8_readsSetting : Cond.instanceMethod yX8_readsSetting ∈ xWs := xin (i := 851) (by decide +kernel) (by decide +kernel)
theorem kp_selects_yX8_readsSetting : Cond.selects RX8 yX8_readsSetting yX8_readsSetting ∈ xWs := xin (i := 36) (by decide +kernel) (by decide +kernel)
theorem kp_code_yX8_readsSetting : Cond.code yX8_readsSetting cX8_readsSetting 3 (some .boolean) ∈ xWs := xin (i := 852) (by decide +kernel) (by decide +kernel)
theorem km_X8_87 : Cond.methodLink RX8 87 yX8_readsCell ∈ xWs := xin (i := 853) (by decide +kernel) (by decide +kernel)
theorem kp_instanceMethod_yX8_readsCell : Cond.instanceMethod yX8_readsCell ∈ xWs := xin (i := 855) (by decide +kernel) (by decide +kernel)
theorem kp_selects_yX8_readsCell : Cond.selects RX8 yX8_readsCell yX8_readsCell ∈ xWs := xin (i := 37) (by decide +kernel) (by decide +kernel)
theorem kp_code_yX8_readsCell : Cond.code yX8_readsCell cX8_readsCell 3 (some .boolean) ∈ xWs := xin (i := 856) (by decide +kernel) (by decide +kernel)
theorem km_X8_90 : Cond.methodLink RX8 90 yX8_passes ∈ xWs := xin (i := 857) (by decide +kernel) (by decide +kernel)
theorem kp_instanceMethod_yX8_passes : Cond.instanceMethod yX8_passes ∈ xWs := xin (i := 859) (by decide +kernel) (by decide +kernel)
theorem kp_selects_yX8_passes : Cond.selects RX8 yX8_passes yX8_passes ∈ xWs := xin (i := 38) (by decide +kernel) (by decide +kernel)
theorem kp_code_yX8_passes : Cond.code yX8_passes cX8_passes 3 (some .boolean) ∈ xWs := xin (i := 860) (by decide +kernel) (by decide +kernel)
theorem km_X8_93 : Cond.methodLink RX8 93 yX8_readsTerm ∈ xWs := xin (i := 861) (by decide +kernel) (by decide +kernel)
theorem kp_instanceMethod_yX8_readsTerm : Cond.instanceMethod yX8_readsTerm ∈ xWs := xin (i := 863) (by decide +kernel) (by decide +kernel)
theorem kp_selects_yX8_readsTerm : Cond.selects RX8 yX8_readsTerm yX8_readsTerm ∈ xWs := xin (i := 39) (by decide +kernel) (by decide +kernel)
theorem kp_code_yX8_readsTerm : Cond.code yX8_readsTerm cX8_readsTerm 7 (some .boolean) ∈ xWs := xin (i := 864) (by decide +kernel) (by decide +kernel)
theorem km_X8_114 : Cond.methodLink RX8 114 yX8_saves ∈ xWs := xin (i := 865) (by decide +kernel) (by decide +kernel)
theorem kp_instanceMethod_yX8_saves : Cond.instanceMethod yX8_saves ∈ xWs := xin (i := 867) (by decide +kernel) (by decide +kernel)
theorem kp_selects_yX8_saves : Cond.selects RX8 yX8_saves yX8_saves ∈ xWs := xin (i := 40) (by decide +kernel) (by decide +kernel)
theorem kp_code_yX8_saves : Cond.code yX8_saves cX8_saves 2 none ∈ xWs := xin (i := 868) (by decide +kernel) (by decide +kernel)
theorem kf_X8_65 : Cond.fieldLink RX8 65 "PairedStepsModel" "saved" "I" ∈ xWs := xin (i := 746) (by decide +kernel) (by decide +kernel)
theorem km_X8_117 : Cond.methodLink RX8 117 yX8_lays ∈ xWs := xin (i := 869) (by decide +kernel) (by decide +kernel)
theorem kp_instanceMethod_yX8_lays : Cond.instanceMethod yX8_lays ∈ xWs := xin (i := 871) (by decide +kernel) (by decide +kernel)
theorem kp_selects_yX8_lays : Cond.selects RX8 yX8_lays yX8_lays ∈ xWs := xin (i := 41) (by decide +kernel) (by decide +kernel)
theorem kp_code_yX8_lays : Cond.code yX8_lays cX8_lays 3 none ∈ xWs := xin (i := 872) (by decide +kernel) (by decide +kernel)
theorem km_L_27 : Cond.methodLink RL 27 yX7_copy ∈ xWs := xin (i := 449) (by decide +kernel) (by decide +kernel)
theorem kp_instanceMethod_yX7_copy : Cond.instanceMethod yX7_copy ∈ xWs := xin (i := 450) (by decide +kernel) (by decide +kernel)
theorem kp_selects_yX7_copy : Cond.selects RX7 yX7_copy yX7_copy ∈ xWs := xin (i := 451) (by decide +kernel) (by decide +kernel)
theorem kp_code_yX7_copy : Cond.code yX7_copy cX7_copy 1 (some .int) ∈ xWs := xin (i := 452) (by decide +kernel) (by decide +kernel)
theorem km_L_30 : Cond.methodLink RL 30 yX8_copy ∈ xWs := xin (i := 873) (by decide +kernel) (by decide +kernel)
theorem kp_instanceMethod_yX8_copy : Cond.instanceMethod yX8_copy ∈ xWs := xin (i := 874) (by decide +kernel) (by decide +kernel)
theorem kp_selects_yX8_copy : Cond.selects RX8 yX8_copy yX8_copy ∈ xWs := xin (i := 875) (by decide +kernel) (by decide +kernel)
theorem kp_code_yX8_copy : Cond.code yX8_copy cX8_copy 1 (some .int) ∈ xWs := xin (i := 876) (by decide +kernel) (by decide +kernel)
theorem km_X8_121 : Cond.methodLink RX8 121 yX8_takes ∈ xWs := xin (i := 877) (by decide +kernel) (by decide +kernel)
theorem kp_instanceMethod_yX8_takes : Cond.instanceMethod yX8_takes ∈ xWs := xin (i := 879) (by decide +kernel) (by decide +kernel)
theorem kp_selects_yX8_takes : Cond.selects RX8 yX8_takes yX8_takes ∈ xWs := xin (i := 42) (by decide +kernel) (by decide +kernel)
theorem kp_code_yX8_takes : Cond.code yX8_takes cX8_takes 3 none ∈ xWs := xin (i := 880) (by decide +kernel) (by decide +kernel)
theorem km_L_31 : Cond.methodLink RL 31 yX7_exchange ∈ xWs := xin (i := 453) (by decide +kernel) (by decide +kernel)
theorem kp_instanceMethod_yX7_exchange : Cond.instanceMethod yX7_exchange ∈ xWs := xin (i := 454) (by decide +kernel) (by decide +kernel)
theorem kp_selects_yX7_exchange : Cond.selects RX7 yX7_exchange yX7_exchange ∈ xWs := xin (i := 455) (by decide +kernel) (by decide +kernel)
theorem kp_code_yX7_exchange : Cond.code yX7_exchange cX7_exchange 2 (some .int) ∈ xWs := xin (i := 456) (by decide +kernel) (by decide +kernel)
theorem km_L_34 : Cond.methodLink RL 34 yX8_exchange ∈ xWs := xin (i := 881) (by decide +kernel) (by decide +kernel)
theorem kp_instanceMethod_yX8_exchange : Cond.instanceMethod yX8_exchange ∈ xWs := xin (i := 882) (by decide +kernel) (by decide +kernel)
theorem kp_selects_yX8_exchange : Cond.selects RX8 yX8_exchange yX8_exchange ∈ xWs := xin (i := 883) (by decide +kernel) (by decide +kernel)
theorem kp_code_yX8_exchange : Cond.code yX8_exchange cX8_exchange 2 (some .int) ∈ xWs := xin (i := 884) (by decide +kernel) (by decide +kernel)
theorem km_L_35 : Cond.methodLink RL 35 yX7_cut ∈ xWs := xin (i := 457) (by decide +kernel) (by decide +kernel)
theorem kp_instanceMethod_yX7_cut : Cond.instanceMethod yX7_cut ∈ xWs := xin (i := 458) (by decide +kernel) (by decide +kernel)
theorem kp_selects_yX7_cut : Cond.selects RX7 yX7_cut yX7_cut ∈ xWs := xin (i := 459) (by decide +kernel) (by decide +kernel)
theorem kp_code_yX7_cut : Cond.code yX7_cut cX7_cut 4 (some .int) ∈ xWs := xin (i := 460) (by decide +kernel) (by decide +kernel)
theorem km_X7_100 : Cond.methodLink RX7 100 yX1_holds ∈ xWs := xin (i := 461) (by decide +kernel) (by decide +kernel)
theorem km_X7_103 : Cond.methodLink RX7 103 yX1_remove ∈ xWs := xin (i := 462) (by decide +kernel) (by decide +kernel)
theorem kp_instanceMethod_yX1_remove : Cond.instanceMethod yX1_remove ∈ xWs := xin (i := 463) (by decide +kernel) (by decide +kernel)
theorem kp_selects_yX1_remove : Cond.selects RX1 yX1_remove yX1_remove ∈ xWs := xin (i := 464) (by decide +kernel) (by decide +kernel)
theorem kp_code_yX1_remove : Cond.code yX1_remove cX1_remove 4 none ∈ xWs := xin (i := 465) (by decide +kernel) (by decide +kernel)
theorem km_X1_63 : Cond.methodLink RX1 63 yX1_moveDown ∈ xWs := xin (i := 466) (by decide +kernel) (by decide +kernel)
theorem kp_instanceMethod_yX1_moveDown : Cond.instanceMethod yX1_moveDown ∈ xWs := xin (i := 468) (by decide +kernel) (by decide +kernel)
theorem kp_selects_yX1_moveDown : Cond.selects RX1 yX1_moveDown yX1_moveDown ∈ xWs := xin (i := 17) (by decide +kernel) (by decide +kernel)
theorem kp_code_yX1_moveDown : Cond.code yX1_moveDown cX1_moveDown 3 none ∈ xWs := xin (i := 469) (by decide +kernel) (by decide +kernel)
theorem km_X1_67 : Cond.methodLink RX1 67 yX1_placeWithout ∈ xWs := xin (i := 470) (by decide +kernel) (by decide +kernel)
theorem kp_static_yX1_placeWithout : Cond.static yX1_placeWithout ∈ xWs := xin (i := 471) (by decide +kernel) (by decide +kernel)
theorem kp_code_yX1_placeWithout : Cond.code yX1_placeWithout cX1_placeWithout 3 (some .int) ∈ xWs := xin (i := 472) (by decide +kernel) (by decide +kernel)
theorem km_X1_71 : Cond.methodLink RX1 71 yX1_link ∈ xWs := xin (i := 473) (by decide +kernel) (by decide +kernel)
theorem km_L_39 : Cond.methodLink RL 39 yX8_cut ∈ xWs := xin (i := 885) (by decide +kernel) (by decide +kernel)
theorem kp_instanceMethod_yX8_cut : Cond.instanceMethod yX8_cut ∈ xWs := xin (i := 886) (by decide +kernel) (by decide +kernel)
theorem kp_selects_yX8_cut : Cond.selects RX8 yX8_cut yX8_cut ∈ xWs := xin (i := 887) (by decide +kernel) (by decide +kernel)
theorem kp_code_yX8_cut : Cond.code yX8_cut cX8_cut 3 (some .int) ∈ xWs := xin (i := 888) (by decide +kernel) (by decide +kernel)
theorem km_X8_131 : Cond.methodLink RX8 131 yX8_isStatement ∈ xWs := xin (i := 889) (by decide +kernel) (by decide +kernel)
theorem kp_instanceMethod_yX8_isStatement : Cond.instanceMethod yX8_isStatement ∈ xWs := xin (i := 891) (by decide +kernel) (by decide +kernel)
theorem kp_selects_yX8_isStatement : Cond.selects RX8 yX8_isStatement yX8_isStatement ∈ xWs := xin (i := 43) (by decide +kernel) (by decide +kernel)
theorem kp_code_yX8_isStatement : Cond.code yX8_isStatement cX8_isStatement 3 (some .boolean) ∈ xWs := xin (i := 892) (by decide +kernel) (by decide +kernel)
theorem km_X8_134 : Cond.methodLink RX8 134 yX8_cuts ∈ xWs := xin (i := 893) (by decide +kernel) (by decide +kernel)
theorem kp_instanceMethod_yX8_cuts : Cond.instanceMethod yX8_cuts ∈ xWs := xin (i := 895) (by decide +kernel) (by decide +kernel)
theorem kp_selects_yX8_cuts : Cond.selects RX8 yX8_cuts yX8_cuts ∈ xWs := xin (i := 44) (by decide +kernel) (by decide +kernel)
theorem kp_code_yX8_cuts : Cond.code yX8_cuts cX8_cuts 6 none ∈ xWs := xin (i := 896) (by decide +kernel) (by decide +kernel)
theorem km_X8_128 : Cond.methodLink RX8 128 yX8_sizeOf ∈ xWs := xin (i := 897) (by decide +kernel) (by decide +kernel)
theorem kp_instanceMethod_yX8_sizeOf : Cond.instanceMethod yX8_sizeOf ∈ xWs := xin (i := 899) (by decide +kernel) (by decide +kernel)
theorem kp_selects_yX8_sizeOf : Cond.selects RX8 yX8_sizeOf yX8_sizeOf ∈ xWs := xin (i := 45) (by decide +kernel) (by decide +kernel)
theorem kp_code_yX8_sizeOf : Cond.code yX8_sizeOf cX8_sizeOf 2 (some .int) ∈ xWs := xin (i := 900) (by decide +kernel) (by decide +kernel)
theorem km_X8_124 : Cond.methodLink RX8 124 yX8_of ∈ xWs := xin (i := 901) (by decide +kernel) (by decide +kernel)
theorem kp_instanceMethod_yX8_of : Cond.instanceMethod yX8_of ∈ xWs := xin (i := 903) (by decide +kernel) (by decide +kernel)
theorem kp_selects_yX8_of : Cond.selects RX8 yX8_of yX8_of ∈ xWs := xin (i := 46) (by decide +kernel) (by decide +kernel)
theorem kp_code_yX8_of : Cond.code yX8_of cX8_of 3 (some .int) ∈ xWs := xin (i := 904) (by decide +kernel) (by decide +kernel)
theorem km_L_40 : Cond.methodLink RL 40 yX7_undo ∈ xWs := xin (i := 474) (by decide +kernel) (by decide +kernel)
theorem kp_instanceMethod_yX7_undo : Cond.instanceMethod yX7_undo ∈ xWs := xin (i := 475) (by decide +kernel) (by decide +kernel)
theorem kp_selects_yX7_undo : Cond.selects RX7 yX7_undo yX7_undo ∈ xWs := xin (i := 476) (by decide +kernel) (by decide +kernel)
theorem kp_code_yX7_undo : Cond.code yX7_undo cX7_undo 1 (some .int) ∈ xWs := xin (i := 477) (by decide +kernel) (by decide +kernel)
theorem km_X7_108 : Cond.methodLink RX7 108 yX0_pop ∈ xWs := xin (i := 478) (by decide +kernel) (by decide +kernel)
theorem kp_instanceMethod_yX0_pop : Cond.instanceMethod yX0_pop ∈ xWs := xin (i := 479) (by decide +kernel) (by decide +kernel)
theorem kp_selects_yX0_pop : Cond.selects RX0 yX0_pop yX0_pop ∈ xWs := xin (i := 480) (by decide +kernel) (by decide +kernel)
theorem kp_code_yX0_pop : Cond.code yX0_pop cX0_pop 4 none ∈ xWs := xin (i := 481) (by decide +kernel) (by decide +kernel)
theorem km_L_43 : Cond.methodLink RL 43 yX8_undo ∈ xWs := xin (i := 805) (by decide +kernel) (by decide +kernel)
theorem kp_instanceMethod_yX8_undo : Cond.instanceMethod yX8_undo ∈ xWs := xin (i := 806) (by decide +kernel) (by decide +kernel)
theorem kp_selects_yX8_undo : Cond.selects RX8 yX8_undo yX8_undo ∈ xWs := xin (i := 807) (by decide +kernel) (by decide +kernel)
theorem kp_code_yX8_undo : Cond.code yX8_undo cX8_undo 2 (some .int) ∈ xWs := xin (i := 808) (by decide +kernel) (by decide +kernel)
theorem km_L_44 : Cond.methodLink RL 44 yX7_count ∈ xWs := xin (i := 482) (by decide +kernel) (by decide +kernel)
theorem kp_instanceMethod_yX7_count : Cond.instanceMethod yX7_count ∈ xWs := xin (i := 483) (by decide +kernel) (by decide +kernel)
theorem kp_selects_yX7_count : Cond.selects RX7 yX7_count yX7_count ∈ xWs := xin (i := 484) (by decide +kernel) (by decide +kernel)
theorem kp_code_yX7_count : Cond.code yX7_count cX7_count 2 (some .int) ∈ xWs := xin (i := 485) (by decide +kernel) (by decide +kernel)
theorem km_L_47 : Cond.methodLink RL 47 yX8_count ∈ xWs := xin (i := 905) (by decide +kernel) (by decide +kernel)
theorem kp_instanceMethod_yX8_count : Cond.instanceMethod yX8_count ∈ xWs := xin (i := 906) (by decide +kernel) (by decide +kernel)
theorem kp_selects_yX8_count : Cond.selects RX8 yX8_count yX8_count ∈ xWs := xin (i := 907) (by decide +kernel) (by decide +kernel)
theorem kp_code_yX8_count : Cond.code yX8_count cX8_count 2 (some .int) ∈ xWs := xin (i := 908) (by decide +kernel) (by decide +kernel)
theorem km_L_48 : Cond.methodLink RL 48 yX7_program ∈ xWs := xin (i := 486) (by decide +kernel) (by decide +kernel)
theorem kp_instanceMethod_yX7_program : Cond.instanceMethod yX7_program ∈ xWs := xin (i := 487) (by decide +kernel) (by decide +kernel)
theorem kp_selects_yX7_program : Cond.selects RX7 yX7_program yX7_program ∈ xWs := xin (i := 488) (by decide +kernel) (by decide +kernel)
theorem kp_code_yX7_program : Cond.code yX7_program cX7_program 4 (some .int) ∈ xWs := xin (i := 489) (by decide +kernel) (by decide +kernel)
theorem km_X7_111 : Cond.methodLink RX7 111 yX1_tally ∈ xWs := xin (i := 490) (by decide +kernel) (by decide +kernel)
theorem kp_instanceMethod_yX1_tally : Cond.instanceMethod yX1_tally ∈ xWs := xin (i := 491) (by decide +kernel) (by decide +kernel)
theorem kp_selects_yX1_tally : Cond.selects RX1 yX1_tally yX1_tally ∈ xWs := xin (i := 492) (by decide +kernel) (by decide +kernel)
theorem kp_code_yX1_tally : Cond.code yX1_tally cX1_tally 4 (some .int) ∈ xWs := xin (i := 493) (by decide +kernel) (by decide +kernel)
theorem km_X7_115 : Cond.methodLink RX7 115 yX1_nesting ∈ xWs := xin (i := 494) (by decide +kernel) (by decide +kernel)
theorem kp_instanceMethod_yX1_nesting : Cond.instanceMethod yX1_nesting ∈ xWs := xin (i := 495) (by decide +kernel) (by decide +kernel)
theorem kp_selects_yX1_nesting : Cond.selects RX1 yX1_nesting yX1_nesting ∈ xWs := xin (i := 496) (by decide +kernel) (by decide +kernel)
theorem kp_code_yX1_nesting : Cond.code yX1_nesting cX1_nesting 3 (some .int) ∈ xWs := xin (i := 497) (by decide +kernel) (by decide +kernel)
theorem km_X1_91 : Cond.methodLink RX1 91 Lib.Math.max.name ∈ xWs := xin (i := 502) (by decide +kernel) (by decide +kernel)
theorem kp_static_Lib_Math_max_name : Cond.static Lib.Math.max.name ∈ xWs := xin (i := 503) (by decide +kernel) (by decide +kernel)
theorem kp_code_Lib_Math_max_name : Cond.code Lib.Math.max.name Lib.Math.max.code 2 (some .int) ∈ xWs := xin (i := 504) (by decide +kernel) (by decide +kernel)
theorem km_X1_88 : Cond.methodLink RX1 88 yX1_depthOf ∈ xWs := xin (i := 498) (by decide +kernel) (by decide +kernel)
theorem kp_instanceMethod_yX1_depthOf : Cond.instanceMethod yX1_depthOf ∈ xWs := xin (i := 500) (by decide +kernel) (by decide +kernel)
theorem kp_selects_yX1_depthOf : Cond.selects RX1 yX1_depthOf yX1_depthOf ∈ xWs := xin (i := 18) (by decide +kernel) (by decide +kernel)
theorem kp_code_yX1_depthOf : Cond.code yX1_depthOf cX1_depthOf 5 (some .int) ∈ xWs := xin (i := 501) (by decide +kernel) (by decide +kernel)
theorem km_X7_119 : Cond.methodLink RX7 119 yX1_settableCells ∈ xWs := xin (i := 505) (by decide +kernel) (by decide +kernel)
theorem kp_instanceMethod_yX1_settableCells : Cond.instanceMethod yX1_settableCells ∈ xWs := xin (i := 506) (by decide +kernel) (by decide +kernel)
theorem kp_selects_yX1_settableCells : Cond.selects RX1 yX1_settableCells yX1_settableCells ∈ xWs := xin (i := 507) (by decide +kernel) (by decide +kernel)
theorem kp_code_yX1_settableCells : Cond.code yX1_settableCells cX1_settableCells 3 (some .int) ∈ xWs := xin (i := 508) (by decide +kernel) (by decide +kernel)
theorem km_L_51 : Cond.methodLink RL 51 yX8_program ∈ xWs := xin (i := 909) (by decide +kernel) (by decide +kernel)
theorem kp_instanceMethod_yX8_program : Cond.instanceMethod yX8_program ∈ xWs := xin (i := 910) (by decide +kernel) (by decide +kernel)
theorem kp_selects_yX8_program : Cond.selects RX8 yX8_program yX8_program ∈ xWs := xin (i := 911) (by decide +kernel) (by decide +kernel)
theorem kp_code_yX8_program : Cond.code yX8_program cX8_program 3 (some .int) ∈ xWs := xin (i := 912) (by decide +kernel) (by decide +kernel)
theorem km_X8_137 : Cond.methodLink RX8 137 yX8_depthAll ∈ xWs := xin (i := 913) (by decide +kernel) (by decide +kernel)
theorem kp_instanceMethod_yX8_depthAll : Cond.instanceMethod yX8_depthAll ∈ xWs := xin (i := 915) (by decide +kernel) (by decide +kernel)
theorem kp_selects_yX8_depthAll : Cond.selects RX8 yX8_depthAll yX8_depthAll ∈ xWs := xin (i := 47) (by decide +kernel) (by decide +kernel)
theorem kp_code_yX8_depthAll : Cond.code yX8_depthAll cX8_depthAll 5 (some .int) ∈ xWs := xin (i := 916) (by decide +kernel) (by decide +kernel)
theorem km_X8_140 : Cond.methodLink RX8 140 yX8_canSet ∈ xWs := xin (i := 917) (by decide +kernel) (by decide +kernel)
theorem kp_instanceMethod_yX8_canSet : Cond.instanceMethod yX8_canSet ∈ xWs := xin (i := 919) (by decide +kernel) (by decide +kernel)
theorem kp_selects_yX8_canSet : Cond.selects RX8 yX8_canSet yX8_canSet ∈ xWs := xin (i := 48) (by decide +kernel) (by decide +kernel)
theorem kp_code_yX8_canSet : Cond.code yX8_canSet cX8_canSet 3 (some .int) ∈ xWs := xin (i := 920) (by decide +kernel) (by decide +kernel)
theorem km_X8_143 : Cond.methodLink RX8 143 yX8_ofKind ∈ xWs := xin (i := 921) (by decide +kernel) (by decide +kernel)
theorem kp_instanceMethod_yX8_ofKind : Cond.instanceMethod yX8_ofKind ∈ xWs := xin (i := 923) (by decide +kernel) (by decide +kernel)
theorem kp_selects_yX8_ofKind : Cond.selects RX8 yX8_ofKind yX8_ofKind ∈ xWs := xin (i := 49) (by decide +kernel) (by decide +kernel)
theorem kp_code_yX8_ofKind : Cond.code yX8_ofKind cX8_ofKind 4 (some .int) ∈ xWs := xin (i := 924) (by decide +kernel) (by decide +kernel)
theorem km_L_52 : Cond.methodLink RL 52 yX7_run ∈ xWs := xin (i := 509) (by decide +kernel) (by decide +kernel)
theorem kp_instanceMethod_yX7_run : Cond.instanceMethod yX7_run ∈ xWs := xin (i := 510) (by decide +kernel) (by decide +kernel)
theorem kp_selects_yX7_run : Cond.selects RX7 yX7_run yX7_run ∈ xWs := xin (i := 511) (by decide +kernel) (by decide +kernel)
theorem kp_code_yX7_run : Cond.code yX7_run cX7_run 6 (some .int) ∈ xWs := xin (i := 512) (by decide +kernel) (by decide +kernel)
theorem km_X7_122 : Cond.methodLink RX7 122 yX7_isInput ∈ xWs := xin (i := 513) (by decide +kernel) (by decide +kernel)
theorem kp_static_yX7_isInput : Cond.static yX7_isInput ∈ xWs := xin (i := 514) (by decide +kernel) (by decide +kernel)
theorem kp_code_yX7_isInput : Cond.code yX7_isInput cX7_isInput 2 (some .boolean) ∈ xWs := xin (i := 515) (by decide +kernel) (by decide +kernel)
theorem km_X7_126 : Cond.methodLink RX7 126 yX7_traceOf ∈ xWs := xin (i := 516) (by decide +kernel) (by decide +kernel)
theorem kp_instanceMethod_yX7_traceOf : Cond.instanceMethod yX7_traceOf ∈ xWs := xin (i := 518) (by decide +kernel) (by decide +kernel)
theorem kp_selects_yX7_traceOf : Cond.selects RX7 yX7_traceOf yX7_traceOf ∈ xWs := xin (i := 19) (by decide +kernel) (by decide +kernel)
theorem kp_code_yX7_traceOf : Cond.code yX7_traceOf cX7_traceOf 4 (some (.object "PairedSteps$Trace")) ∈ xWs := xin (i := 519) (by decide +kernel) (by decide +kernel)
theorem km_X7_212 : Cond.methodLink RX7 212 yX6_follow ∈ xWs := xin (i := 520) (by decide +kernel) (by decide +kernel)
theorem kp_instanceMethod_yX6_follow : Cond.instanceMethod yX6_follow ∈ xWs := xin (i := 521) (by decide +kernel) (by decide +kernel)
theorem kp_selects_yX6_follow : Cond.selects RX6 yX6_follow yX6_follow ∈ xWs := xin (i := 522) (by decide +kernel) (by decide +kernel)
theorem kp_code_yX6_follow : Cond.code yX6_follow cX6_follow 6 none ∈ xWs := xin (i := 523) (by decide +kernel) (by decide +kernel)
theorem kf_X6_45 : Cond.fieldLink RX6 45 "PairedSteps$Trace" "steps" "I" ∈ xWs := xin (i := 229) (by decide +kernel) (by decide +kernel)
theorem km_X6_31 : Cond.methodLink RX6 31 yX6_begin ∈ xWs := xin (i := 524) (by decide +kernel) (by decide +kernel)
theorem kp_instanceMethod_yX6_begin : Cond.instanceMethod yX6_begin ∈ xWs := xin (i := 526) (by decide +kernel) (by decide +kernel)
theorem kp_selects_yX6_begin : Cond.selects RX6 yX6_begin yX6_begin ∈ xWs := xin (i := 20) (by decide +kernel) (by decide +kernel)
theorem kp_code_yX6_begin : Cond.code yX6_begin cX6_begin 4 none ∈ xWs := xin (i := 527) (by decide +kernel) (by decide +kernel)
theorem kf_X6_55 : Cond.fieldLink RX6 55 "PairedSteps$Trace" "marks" "I" ∈ xWs := xin (i := 231) (by decide +kernel) (by decide +kernel)
theorem kf_X6_58 : Cond.fieldLink RX6 58 "PairedSteps$Trace" "rounds" "I" ∈ xWs := xin (i := 233) (by decide +kernel) (by decide +kernel)
theorem kf_X6_61 : Cond.fieldLink RX6 61 "PairedSteps$Trace" "mostRounds" "I" ∈ xWs := xin (i := 235) (by decide +kernel) (by decide +kernel)
theorem km_X6_53 : Cond.methodLink RX6 53 yX2_begin ∈ xWs := xin (i := 528) (by decide +kernel) (by decide +kernel)
theorem kp_instanceMethod_yX2_begin : Cond.instanceMethod yX2_begin ∈ xWs := xin (i := 529) (by decide +kernel) (by decide +kernel)
theorem kp_selects_yX2_begin : Cond.selects RX2 yX2_begin yX2_begin ∈ xWs := xin (i := 530) (by decide +kernel) (by decide +kernel)
theorem kp_code_yX2_begin : Cond.code yX2_begin cX2_begin 1 none ∈ xWs := xin (i := 531) (by decide +kernel) (by decide +kernel)
theorem kf_X2_15 : Cond.fieldLink RX2 15 "PairedSteps$Output" "total" "I" ∈ xWs := xin (i := 209) (by decide +kernel) (by decide +kernel)
theorem km_X6_35 : Cond.methodLink RX6 35 yX1_holds ∈ xWs := xin (i := 532) (by decide +kernel) (by decide +kernel)
theorem km_X6_41 : Cond.methodLink RX6 41 yX6_stepFrom ∈ xWs := xin (i := 533) (by decide +kernel) (by decide +kernel)
theorem kp_instanceMethod_yX6_stepFrom : Cond.instanceMethod yX6_stepFrom ∈ xWs := xin (i := 535) (by decide +kernel) (by decide +kernel)
theorem kp_selects_yX6_stepFrom : Cond.selects RX6 yX6_stepFrom yX6_stepFrom ∈ xWs := xin (i := 21) (by decide +kernel) (by decide +kernel)
theorem kp_code_yX6_stepFrom : Cond.code yX6_stepFrom cX6_stepFrom 3 (some .int) ∈ xWs := xin (i := 536) (by decide +kernel) (by decide +kernel)
theorem km_X6_64 : Cond.methodLink RX6 64 yX1_kindOf ∈ xWs := xin (i := 537) (by decide +kernel) (by decide +kernel)
theorem kp_instanceMethod_yX1_kindOf : Cond.instanceMethod yX1_kindOf ∈ xWs := xin (i := 538) (by decide +kernel) (by decide +kernel)
theorem kp_selects_yX1_kindOf : Cond.selects RX1 yX1_kindOf yX1_kindOf ∈ xWs := xin (i := 539) (by decide +kernel) (by decide +kernel)
theorem kp_code_yX1_kindOf : Cond.code yX1_kindOf cX1_kindOf 2 (some .int) ∈ xWs := xin (i := 540) (by decide +kernel) (by decide +kernel)
theorem km_X6_68 : Cond.methodLink RX6 68 yX1_targetOf ∈ xWs := xin (i := 541) (by decide +kernel) (by decide +kernel)
theorem kp_instanceMethod_yX1_targetOf : Cond.instanceMethod yX1_targetOf ∈ xWs := xin (i := 542) (by decide +kernel) (by decide +kernel)
theorem kp_selects_yX1_targetOf : Cond.selects RX1 yX1_targetOf yX1_targetOf ∈ xWs := xin (i := 543) (by decide +kernel) (by decide +kernel)
theorem kp_code_yX1_targetOf : Cond.code yX1_targetOf cX1_targetOf 2 (some .int) ∈ xWs := xin (i := 544) (by decide +kernel) (by decide +kernel)
theorem km_X6_71 : Cond.methodLink RX6 71 yX6_resultOf ∈ xWs := xin (i := 545) (by decide +kernel) (by decide +kernel)
theorem kp_instanceMethod_yX6_resultOf : Cond.instanceMethod yX6_resultOf ∈ xWs := xin (i := 547) (by decide +kernel) (by decide +kernel)
theorem kp_selects_yX6_resultOf : Cond.selects RX6 yX6_resultOf yX6_resultOf ∈ xWs := xin (i := 22) (by decide +kernel) (by decide +kernel)
theorem kp_code_yX6_resultOf : Cond.code yX6_resultOf cX6_resultOf 5 (some .int) ∈ xWs := xin (i := 548) (by decide +kernel) (by decide +kernel)
theorem km_X6_109 : Cond.methodLink RX6 109 yX1_leftOf ∈ xWs := xin (i := 549) (by decide +kernel) (by decide +kernel)
theorem kp_instanceMethod_yX1_leftOf : Cond.instanceMethod yX1_leftOf ∈ xWs := xin (i := 550) (by decide +kernel) (by decide +kernel)
theorem kp_selects_yX1_leftOf : Cond.selects RX1 yX1_leftOf yX1_leftOf ∈ xWs := xin (i := 551) (by decide +kernel) (by decide +kernel)
theorem kp_code_yX1_leftOf : Cond.code yX1_leftOf cX1_leftOf 2 (some .int) ∈ xWs := xin (i := 552) (by decide +kernel) (by decide +kernel)
theorem km_X6_112 : Cond.methodLink RX6 112 yX6_termValue ∈ xWs := xin (i := 553) (by decide +kernel) (by decide +kernel)
theorem kp_instanceMethod_yX6_termValue : Cond.instanceMethod yX6_termValue ∈ xWs := xin (i := 555) (by decide +kernel) (by decide +kernel)
theorem kp_selects_yX6_termValue : Cond.selects RX6 yX6_termValue yX6_termValue ∈ xWs := xin (i := 23) (by decide +kernel) (by decide +kernel)
theorem kp_code_yX6_termValue : Cond.code yX6_termValue cX6_termValue 2 (some .int) ∈ xWs := xin (i := 556) (by decide +kernel) (by decide +kernel)
theorem km_X6_80 : Cond.methodLink RX6 80 yX6_valueOf ∈ xWs := xin (i := 557) (by decide +kernel) (by decide +kernel)
theorem kp_instanceMethod_yX6_valueOf : Cond.instanceMethod yX6_valueOf ∈ xWs := xin (i := 558) (by decide +kernel) (by decide +kernel)
theorem kp_selects_yX6_valueOf : Cond.selects RX6 yX6_valueOf yX6_valueOf ∈ xWs := xin (i := 559) (by decide +kernel) (by decide +kernel)
theorem kp_code_yX6_valueOf : Cond.code yX6_valueOf cX6_valueOf 2 (some .int) ∈ xWs := xin (i := 560) (by decide +kernel) (by decide +kernel)
theorem km_X6_115 : Cond.methodLink RX6 115 yX1_rightOf ∈ xWs := xin (i := 562) (by decide +kernel) (by decide +kernel)
theorem kp_instanceMethod_yX1_rightOf : Cond.instanceMethod yX1_rightOf ∈ xWs := xin (i := 563) (by decide +kernel) (by decide +kernel)
theorem kp_selects_yX1_rightOf : Cond.selects RX1 yX1_rightOf yX1_rightOf ∈ xWs := xin (i := 564) (by decide +kernel) (by decide +kernel)
theorem kp_code_yX1_rightOf : Cond.code yX1_rightOf cX1_rightOf 2 (some .int) ∈ xWs := xin (i := 565) (by decide +kernel) (by decide +kernel)
theorem km_X6_118 : Cond.methodLink RX6 118 yX1_operatorOf ∈ xWs := xin (i := 566) (by decide +kernel) (by decide +kernel)
theorem kp_instanceMethod_yX1_operatorOf : Cond.instanceMethod yX1_operatorOf ∈ xWs := xin (i := 567) (by decide +kernel) (by decide +kernel)
theorem kp_selects_yX1_operatorOf : Cond.selects RX1 yX1_operatorOf yX1_operatorOf ∈ xWs := xin (i := 568) (by decide +kernel) (by decide +kernel)
theorem kp_code_yX1_operatorOf : Cond.code yX1_operatorOf cX1_operatorOf 2 (some .int) ∈ xWs := xin (i := 569) (by decide +kernel) (by decide +kernel)
theorem km_X6_121 : Cond.methodLink RX6 121 yX6_nearestValue ∈ xWs := xin (i := 570) (by decide +kernel) (by decide +kernel)
theorem kp_static_yX6_nearestValue : Cond.static yX6_nearestValue ∈ xWs := xin (i := 571) (by decide +kernel) (by decide +kernel)
theorem kp_code_yX6_nearestValue : Cond.code yX6_nearestValue cX6_nearestValue 1 (some .int) ∈ xWs := xin (i := 572) (by decide +kernel) (by decide +kernel)
theorem km_X6_124 : Cond.methodLink RX6 124 Lib.Math.min.name ∈ xWs := xin (i := 573) (by decide +kernel) (by decide +kernel)
theorem km_X6_103 : Cond.methodLink RX6 103 Lib.Math.max.name ∈ xWs := xin (i := 574) (by decide +kernel) (by decide +kernel)
theorem km_X6_74 : Cond.methodLink RX6 74 yX6_setCell ∈ xWs := xin (i := 575) (by decide +kernel) (by decide +kernel)
theorem kp_instanceMethod_yX6_setCell : Cond.instanceMethod yX6_setCell ∈ xWs := xin (i := 577) (by decide +kernel) (by decide +kernel)
theorem kp_selects_yX6_setCell : Cond.selects RX6 yX6_setCell yX6_setCell ∈ xWs := xin (i := 24) (by decide +kernel) (by decide +kernel)
theorem kp_code_yX6_setCell : Cond.code yX6_setCell cX6_setCell 3 none ∈ xWs := xin (i := 578) (by decide +kernel) (by decide +kernel)
theorem km_X6_77 : Cond.methodLink RX6 77 yX1_followerAt ∈ xWs := xin (i := 579) (by decide +kernel) (by decide +kernel)
theorem kp_instanceMethod_yX1_followerAt : Cond.instanceMethod yX1_followerAt ∈ xWs := xin (i := 580) (by decide +kernel) (by decide +kernel)
theorem kp_selects_yX1_followerAt : Cond.selects RX1 yX1_followerAt yX1_followerAt ∈ xWs := xin (i := 581) (by decide +kernel) (by decide +kernel)
theorem kp_code_yX1_followerAt : Cond.code yX1_followerAt cX1_followerAt 2 (some .int) ∈ xWs := xin (i := 582) (by decide +kernel) (by decide +kernel)
theorem km_X6_83 : Cond.methodLink RX6 83 yX2_add ∈ xWs := xin (i := 583) (by decide +kernel) (by decide +kernel)
theorem kp_instanceMethod_yX2_add : Cond.instanceMethod yX2_add ∈ xWs := xin (i := 584) (by decide +kernel) (by decide +kernel)
theorem kp_selects_yX2_add : Cond.selects RX2 yX2_add yX2_add ∈ xWs := xin (i := 585) (by decide +kernel) (by decide +kernel)
theorem kp_code_yX2_add : Cond.code yX2_add cX2_add 2 none ∈ xWs := xin (i := 586) (by decide +kernel) (by decide +kernel)
theorem km_X6_87 : Cond.methodLink RX6 87 yX6_keepMark ∈ xWs := xin (i := 588) (by decide +kernel) (by decide +kernel)
theorem kp_instanceMethod_yX6_keepMark : Cond.instanceMethod yX6_keepMark ∈ xWs := xin (i := 590) (by decide +kernel) (by decide +kernel)
theorem kp_selects_yX6_keepMark : Cond.selects RX6 yX6_keepMark yX6_keepMark ∈ xWs := xin (i := 25) (by decide +kernel) (by decide +kernel)
theorem kp_code_yX6_keepMark : Cond.code yX6_keepMark cX6_keepMark 1 none ∈ xWs := xin (i := 591) (by decide +kernel) (by decide +kernel)
theorem km_X6_130 : Cond.methodLink RX6 130 arraycopyName ∈ xWs := xin (i := 593) (by decide +kernel) (by decide +kernel)
theorem km_X6_90 : Cond.methodLink RX6 90 yX6_look ∈ xWs := xin (i := 594) (by decide +kernel) (by decide +kernel)
theorem kp_instanceMethod_yX6_look : Cond.instanceMethod yX6_look ∈ xWs := xin (i := 596) (by decide +kernel) (by decide +kernel)
theorem kp_selects_yX6_look : Cond.selects RX6 yX6_look yX6_look ∈ xWs := xin (i := 26) (by decide +kernel) (by decide +kernel)
theorem kp_code_yX6_look : Cond.code yX6_look cX6_look 4 (some .int) ∈ xWs := xin (i := 597) (by decide +kernel) (by decide +kernel)
theorem km_X6_93 : Cond.methodLink RX6 93 yX1_entered ∈ xWs := xin (i := 598) (by decide +kernel) (by decide +kernel)
theorem kp_instanceMethod_yX1_entered : Cond.instanceMethod yX1_entered ∈ xWs := xin (i := 599) (by decide +kernel) (by decide +kernel)
theorem kp_selects_yX1_entered : Cond.selects RX1 yX1_entered yX1_entered ∈ xWs := xin (i := 600) (by decide +kernel) (by decide +kernel)
theorem kp_code_yX1_entered : Cond.code yX1_entered cX1_entered 2 (some .int) ∈ xWs := xin (i := 601) (by decide +kernel) (by decide +kernel)
theorem km_X1_82 : Cond.methodLink RX1 82 yX1_kindOf ∈ xWs := xin (i := 602) (by decide +kernel) (by decide +kernel)
theorem km_X1_85 : Cond.methodLink RX1 85 yX1_followerAt ∈ xWs := xin (i := 603) (by decide +kernel) (by decide +kernel)
theorem km_X6_96 : Cond.methodLink RX6 96 yX1_passed ∈ xWs := xin (i := 604) (by decide +kernel) (by decide +kernel)
theorem kp_instanceMethod_yX1_passed : Cond.instanceMethod yX1_passed ∈ xWs := xin (i := 605) (by decide +kernel) (by decide +kernel)
theorem kp_selects_yX1_passed : Cond.selects RX1 yX1_passed yX1_passed ∈ xWs := xin (i := 606) (by decide +kernel) (by decide +kernel)
theorem kp_code_yX1_passed : Cond.code yX1_passed cX1_passed 3 (some .int) ∈ xWs := xin (i := 607) (by decide +kernel) (by decide +kernel)
theorem km_L_56 : Cond.methodLink RL 56 yX8_run ∈ xWs := xin (i := 925) (by decide +kernel) (by decide +kernel)
theorem kp_instanceMethod_yX8_run : Cond.instanceMethod yX8_run ∈ xWs := xin (i := 926) (by decide +kernel) (by decide +kernel)
theorem kp_selects_yX8_run : Cond.selects RX8 yX8_run yX8_run ∈ xWs := xin (i := 927) (by decide +kernel) (by decide +kernel)
theorem kp_code_yX8_run : Cond.code yX8_run cX8_run 5 (some .int) ∈ xWs := xin (i := 928) (by decide +kernel) (by decide +kernel)
theorem km_X8_171 : Cond.methodLink RX8 171 yX8_isInput ∈ xWs := xin (i := 929) (by decide +kernel) (by decide +kernel)
theorem kp_static_yX8_isInput : Cond.static yX8_isInput ∈ xWs := xin (i := 930) (by decide +kernel) (by decide +kernel)
theorem kp_code_yX8_isInput : Cond.code yX8_isInput cX8_isInput 2 (some .boolean) ∈ xWs := xin (i := 931) (by decide +kernel) (by decide +kernel)
theorem km_X8_174 : Cond.methodLink RX8 174 yX8_runsOne ∈ xWs := xin (i := 932) (by decide +kernel) (by decide +kernel)
theorem kp_instanceMethod_yX8_runsOne : Cond.instanceMethod yX8_runsOne ∈ xWs := xin (i := 934) (by decide +kernel) (by decide +kernel)
theorem kp_selects_yX8_runsOne : Cond.selects RX8 yX8_runsOne yX8_runsOne ∈ xWs := xin (i := 50) (by decide +kernel) (by decide +kernel)
theorem kp_code_yX8_runsOne : Cond.code yX8_runsOne cX8_runsOne 4 none ∈ xWs := xin (i := 935) (by decide +kernel) (by decide +kernel)
theorem km_X8_168 : Cond.methodLink RX8 168 yX8_runs ∈ xWs := xin (i := 936) (by decide +kernel) (by decide +kernel)
theorem kp_instanceMethod_yX8_runs : Cond.instanceMethod yX8_runs ∈ xWs := xin (i := 938) (by decide +kernel) (by decide +kernel)
theorem kp_selects_yX8_runs : Cond.selects RX8 yX8_runs yX8_runs ∈ xWs := xin (i := 51) (by decide +kernel) (by decide +kernel)
theorem kp_code_yX8_runs : Cond.code yX8_runs cX8_runs 10 none ∈ xWs := xin (i := 939) (by decide +kernel) (by decide +kernel)
theorem km_X8_152 : Cond.methodLink RX8 152 yX8_roundOf ∈ xWs := xin (i := 940) (by decide +kernel) (by decide +kernel)
theorem kp_instanceMethod_yX8_roundOf : Cond.instanceMethod yX8_roundOf ∈ xWs := xin (i := 942) (by decide +kernel) (by decide +kernel)
theorem kp_selects_yX8_roundOf : Cond.selects RX8 yX8_roundOf yX8_roundOf ∈ xWs := xin (i := 52) (by decide +kernel) (by decide +kernel)
theorem kp_code_yX8_roundOf : Cond.code yX8_roundOf cX8_roundOf 3 none ∈ xWs := xin (i := 943) (by decide +kernel) (by decide +kernel)
theorem km_X8_156 : Cond.methodLink RX8 156 yX8_does ∈ xWs := xin (i := 944) (by decide +kernel) (by decide +kernel)
theorem kp_instanceMethod_yX8_does : Cond.instanceMethod yX8_does ∈ xWs := xin (i := 946) (by decide +kernel) (by decide +kernel)
theorem kp_selects_yX8_does : Cond.selects RX8 yX8_does yX8_does ∈ xWs := xin (i := 53) (by decide +kernel) (by decide +kernel)
theorem kp_code_yX8_does : Cond.code yX8_does cX8_does 4 none ∈ xWs := xin (i := 947) (by decide +kernel) (by decide +kernel)
theorem km_X8_159 : Cond.methodLink RX8 159 yX8_sets ∈ xWs := xin (i := 948) (by decide +kernel) (by decide +kernel)
theorem kp_instanceMethod_yX8_sets : Cond.instanceMethod yX8_sets ∈ xWs := xin (i := 950) (by decide +kernel) (by decide +kernel)
theorem kp_selects_yX8_sets : Cond.selects RX8 yX8_sets yX8_sets ∈ xWs := xin (i := 54) (by decide +kernel) (by decide +kernel)
theorem kp_code_yX8_sets : Cond.code yX8_sets cX8_sets 7 none ∈ xWs := xin (i := 951) (by decide +kernel) (by decide +kernel)
theorem km_X8_146 : Cond.methodLink RX8 146 yX8_term ∈ xWs := xin (i := 952) (by decide +kernel) (by decide +kernel)
theorem kp_instanceMethod_yX8_term : Cond.instanceMethod yX8_term ∈ xWs := xin (i := 954) (by decide +kernel) (by decide +kernel)
theorem kp_selects_yX8_term : Cond.selects RX8 yX8_term yX8_term ∈ xWs := xin (i := 55) (by decide +kernel) (by decide +kernel)
theorem kp_code_yX8_term : Cond.code yX8_term cX8_term 3 (some .int) ∈ xWs := xin (i := 955) (by decide +kernel) (by decide +kernel)
theorem km_X8_149 : Cond.methodLink RX8 149 yX8_held ∈ xWs := xin (i := 956) (by decide +kernel) (by decide +kernel)
theorem kp_static_yX8_held : Cond.static yX8_held ∈ xWs := xin (i := 957) (by decide +kernel) (by decide +kernel)
theorem kp_code_yX8_held : Cond.code yX8_held cX8_held 1 (some .int) ∈ xWs := xin (i := 958) (by decide +kernel) (by decide +kernel)
theorem km_X8_162 : Cond.methodLink RX8 162 yX8_tellsCell ∈ xWs := xin (i := 959) (by decide +kernel) (by decide +kernel)
theorem kp_instanceMethod_yX8_tellsCell : Cond.instanceMethod yX8_tellsCell ∈ xWs := xin (i := 961) (by decide +kernel) (by decide +kernel)
theorem kp_selects_yX8_tellsCell : Cond.selects RX8 yX8_tellsCell yX8_tellsCell ∈ xWs := xin (i := 56) (by decide +kernel) (by decide +kernel)
theorem kp_code_yX8_tellsCell : Cond.code yX8_tellsCell cX8_tellsCell 4 none ∈ xWs := xin (i := 962) (by decide +kernel) (by decide +kernel)
theorem km_X8_165 : Cond.methodLink RX8 165 yX8_marks ∈ xWs := xin (i := 963) (by decide +kernel) (by decide +kernel)
theorem kp_instanceMethod_yX8_marks : Cond.instanceMethod yX8_marks ∈ xWs := xin (i := 965) (by decide +kernel) (by decide +kernel)
theorem kp_selects_yX8_marks : Cond.selects RX8 yX8_marks yX8_marks ∈ xWs := xin (i := 57) (by decide +kernel) (by decide +kernel)
theorem kp_code_yX8_marks : Cond.code yX8_marks cX8_marks 4 none ∈ xWs := xin (i := 966) (by decide +kernel) (by decide +kernel)
theorem km_L_57 : Cond.methodLink RL 57 yX7_told ∈ xWs := xin (i := 608) (by decide +kernel) (by decide +kernel)
theorem kp_instanceMethod_yX7_told : Cond.instanceMethod yX7_told ∈ xWs := xin (i := 609) (by decide +kernel) (by decide +kernel)
theorem kp_selects_yX7_told : Cond.selects RX7 yX7_told yX7_told ∈ xWs := xin (i := 610) (by decide +kernel) (by decide +kernel)
theorem kp_code_yX7_told : Cond.code yX7_told cX7_told 5 (some .int) ∈ xWs := xin (i := 611) (by decide +kernel) (by decide +kernel)
theorem km_X7_155 : Cond.methodLink RX7 155 yX2_valueAt ∈ xWs := xin (i := 612) (by decide +kernel) (by decide +kernel)
theorem kp_instanceMethod_yX2_valueAt : Cond.instanceMethod yX2_valueAt ∈ xWs := xin (i := 613) (by decide +kernel) (by decide +kernel)
theorem kp_selects_yX2_valueAt : Cond.selects RX2 yX2_valueAt yX2_valueAt ∈ xWs := xin (i := 614) (by decide +kernel) (by decide +kernel)
theorem kp_code_yX2_valueAt : Cond.code yX2_valueAt cX2_valueAt 2 (some .int) ∈ xWs := xin (i := 615) (by decide +kernel) (by decide +kernel)
theorem km_X2_33 : Cond.methodLink RX2 33 Lib.Math.min.name ∈ xWs := xin (i := 616) (by decide +kernel) (by decide +kernel)
theorem km_L_60 : Cond.methodLink RL 60 yX8_told ∈ xWs := xin (i := 967) (by decide +kernel) (by decide +kernel)
theorem kp_instanceMethod_yX8_told : Cond.instanceMethod yX8_told ∈ xWs := xin (i := 968) (by decide +kernel) (by decide +kernel)
theorem kp_selects_yX8_told : Cond.selects RX8 yX8_told yX8_told ∈ xWs := xin (i := 969) (by decide +kernel) (by decide +kernel)
theorem kp_code_yX8_told : Cond.code yX8_told cX8_told 5 (some .int) ∈ xWs := xin (i := 970) (by decide +kernel) (by decide +kernel)
theorem km_X8_177 : Cond.methodLink RX8 177 yX8_least ∈ xWs := xin (i := 971) (by decide +kernel) (by decide +kernel)
theorem kp_static_yX8_least : Cond.static yX8_least ∈ xWs := xin (i := 972) (by decide +kernel) (by decide +kernel)
theorem kp_code_yX8_least : Cond.code yX8_least cX8_least 2 (some .int) ∈ xWs := xin (i := 973) (by decide +kernel) (by decide +kernel)
theorem km_L_61 : Cond.methodLink RL 61 yX7_cell ∈ xWs := xin (i := 617) (by decide +kernel) (by decide +kernel)
theorem kp_instanceMethod_yX7_cell : Cond.instanceMethod yX7_cell ∈ xWs := xin (i := 618) (by decide +kernel) (by decide +kernel)
theorem kp_selects_yX7_cell : Cond.selects RX7 yX7_cell yX7_cell ∈ xWs := xin (i := 619) (by decide +kernel) (by decide +kernel)
theorem kp_code_yX7_cell : Cond.code yX7_cell cX7_cell 7 (some .int) ∈ xWs := xin (i := 620) (by decide +kernel) (by decide +kernel)
theorem km_X7_158 : Cond.methodLink RX7 158 yX7_isCell ∈ xWs := xin (i := 621) (by decide +kernel) (by decide +kernel)
theorem km_X7_161 : Cond.methodLink RX7 161 yX6_valueOf ∈ xWs := xin (i := 622) (by decide +kernel) (by decide +kernel)
theorem km_X7_164 : Cond.methodLink RX7 164 yX6_cellAtMark ∈ xWs := xin (i := 623) (by decide +kernel) (by decide +kernel)
theorem kp_instanceMethod_yX6_cellAtMark : Cond.instanceMethod yX6_cellAtMark ∈ xWs := xin (i := 624) (by decide +kernel) (by decide +kernel)
theorem kp_selects_yX6_cellAtMark : Cond.selects RX6 yX6_cellAtMark yX6_cellAtMark ∈ xWs := xin (i := 625) (by decide +kernel) (by decide +kernel)
theorem kp_code_yX6_cellAtMark : Cond.code yX6_cellAtMark cX6_cellAtMark 4 (some .int) ∈ xWs := xin (i := 626) (by decide +kernel) (by decide +kernel)
theorem km_X6_136 : Cond.methodLink RX6 136 yX6_marksKept ∈ xWs := xin (i := 627) (by decide +kernel) (by decide +kernel)
theorem kp_instanceMethod_yX6_marksKept : Cond.instanceMethod yX6_marksKept ∈ xWs := xin (i := 628) (by decide +kernel) (by decide +kernel)
theorem kp_selects_yX6_marksKept : Cond.selects RX6 yX6_marksKept yX6_marksKept ∈ xWs := xin (i := 629) (by decide +kernel) (by decide +kernel)
theorem kp_code_yX6_marksKept : Cond.code yX6_marksKept cX6_marksKept 1 (some .int) ∈ xWs := xin (i := 630) (by decide +kernel) (by decide +kernel)
theorem km_L_65 : Cond.methodLink RL 65 yX8_cell ∈ xWs := xin (i := 974) (by decide +kernel) (by decide +kernel)
theorem kp_instanceMethod_yX8_cell : Cond.instanceMethod yX8_cell ∈ xWs := xin (i := 975) (by decide +kernel) (by decide +kernel)
theorem kp_selects_yX8_cell : Cond.selects RX8 yX8_cell yX8_cell ∈ xWs := xin (i := 976) (by decide +kernel) (by decide +kernel)
theorem kp_code_yX8_cell : Cond.code yX8_cell cX8_cell 6 (some .int) ∈ xWs := xin (i := 977) (by decide +kernel) (by decide +kernel)
theorem km_X8_180 : Cond.methodLink RX8 180 yX8_isCell ∈ xWs := xin (i := 978) (by decide +kernel) (by decide +kernel)
theorem kp_static_yX8_isCell : Cond.static yX8_isCell ∈ xWs := xin (i := 979) (by decide +kernel) (by decide +kernel)
theorem kp_code_yX8_isCell : Cond.code yX8_isCell cX8_isCell 1 (some .boolean) ∈ xWs := xin (i := 980) (by decide +kernel) (by decide +kernel)
theorem km_L_66 : Cond.methodLink RL 66 yX7_pairs ∈ xWs := xin (i := 631) (by decide +kernel) (by decide +kernel)
theorem kp_instanceMethod_yX7_pairs : Cond.instanceMethod yX7_pairs ∈ xWs := xin (i := 632) (by decide +kernel) (by decide +kernel)
theorem kp_selects_yX7_pairs : Cond.selects RX7 yX7_pairs yX7_pairs ∈ xWs := xin (i := 633) (by decide +kernel) (by decide +kernel)
theorem kp_code_yX7_pairs : Cond.code yX7_pairs cX7_pairs 4 (some .int) ∈ xWs := xin (i := 634) (by decide +kernel) (by decide +kernel)
theorem km_X7_168 : Cond.methodLink RX7 168 yX4_follow ∈ xWs := xin (i := 635) (by decide +kernel) (by decide +kernel)
theorem kp_instanceMethod_yX4_follow : Cond.instanceMethod yX4_follow ∈ xWs := xin (i := 636) (by decide +kernel) (by decide +kernel)
theorem kp_selects_yX4_follow : Cond.selects RX4 yX4_follow yX4_follow ∈ xWs := xin (i := 637) (by decide +kernel) (by decide +kernel)
theorem kp_code_yX4_follow : Cond.code yX4_follow cX4_follow 5 none ∈ xWs := xin (i := 638) (by decide +kernel) (by decide +kernel)
theorem km_X4_21 : Cond.methodLink RX4 21 yX6_follow ∈ xWs := xin (i := 639) (by decide +kernel) (by decide +kernel)
theorem km_X7_172 : Cond.methodLink RX7 172 yX4_pairsKept ∈ xWs := xin (i := 640) (by decide +kernel) (by decide +kernel)
theorem kp_instanceMethod_yX4_pairsKept : Cond.instanceMethod yX4_pairsKept ∈ xWs := xin (i := 641) (by decide +kernel) (by decide +kernel)
theorem kp_selects_yX4_pairsKept : Cond.selects RX4 yX4_pairsKept yX4_pairsKept ∈ xWs := xin (i := 642) (by decide +kernel) (by decide +kernel)
theorem kp_code_yX4_pairsKept : Cond.code yX4_pairsKept cX4_pairsKept 1 (some .int) ∈ xWs := xin (i := 643) (by decide +kernel) (by decide +kernel)
theorem km_X4_29 : Cond.methodLink RX4 29 Lib.Math.min.name ∈ xWs := xin (i := 645) (by decide +kernel) (by decide +kernel)
theorem km_X4_25 : Cond.methodLink RX4 25 yX6_marksKept ∈ xWs := xin (i := 644) (by decide +kernel) (by decide +kernel)
theorem km_X7_175 : Cond.methodLink RX7 175 yX4_greatestLead ∈ xWs := xin (i := 646) (by decide +kernel) (by decide +kernel)
theorem kp_instanceMethod_yX4_greatestLead : Cond.instanceMethod yX4_greatestLead ∈ xWs := xin (i := 647) (by decide +kernel) (by decide +kernel)
theorem kp_selects_yX4_greatestLead : Cond.selects RX4 yX4_greatestLead yX4_greatestLead ∈ xWs := xin (i := 648) (by decide +kernel) (by decide +kernel)
theorem kp_code_yX4_greatestLead : Cond.code yX4_greatestLead cX4_greatestLead 4 (some .int) ∈ xWs := xin (i := 649) (by decide +kernel) (by decide +kernel)
theorem km_X4_45 : Cond.methodLink RX4 45 Lib.Math.abs.name ∈ xWs := xin (i := 659) (by decide +kernel) (by decide +kernel)
theorem kp_static_Lib_Math_abs_name : Cond.static Lib.Math.abs.name ∈ xWs := xin (i := 660) (by decide +kernel) (by decide +kernel)
theorem kp_code_Lib_Math_abs_name : Cond.code Lib.Math.abs.name Lib.Math.abs.code 1 (some .int) ∈ xWs := xin (i := 661) (by decide +kernel) (by decide +kernel)
theorem km_X4_48 : Cond.methodLink RX4 48 Lib.Math.max.name ∈ xWs := xin (i := 662) (by decide +kernel) (by decide +kernel)
theorem km_X4_39 : Cond.methodLink RX4 39 yX4_pairsKept ∈ xWs := xin (i := 650) (by decide +kernel) (by decide +kernel)
theorem km_X4_42 : Cond.methodLink RX4 42 yX4_leadAt ∈ xWs := xin (i := 651) (by decide +kernel) (by decide +kernel)
theorem kp_instanceMethod_yX4_leadAt : Cond.instanceMethod yX4_leadAt ∈ xWs := xin (i := 653) (by decide +kernel) (by decide +kernel)
theorem kp_selects_yX4_leadAt : Cond.selects RX4 yX4_leadAt yX4_leadAt ∈ xWs := xin (i := 27) (by decide +kernel) (by decide +kernel)
theorem kp_code_yX4_leadAt : Cond.code yX4_leadAt cX4_leadAt 2 (some .int) ∈ xWs := xin (i := 654) (by decide +kernel) (by decide +kernel)
theorem km_X4_35 : Cond.methodLink RX4 35 yX6_stepsAheadOf ∈ xWs := xin (i := 655) (by decide +kernel) (by decide +kernel)
theorem kp_instanceMethod_yX6_stepsAheadOf : Cond.instanceMethod yX6_stepsAheadOf ∈ xWs := xin (i := 656) (by decide +kernel) (by decide +kernel)
theorem kp_selects_yX6_stepsAheadOf : Cond.selects RX6 yX6_stepsAheadOf yX6_stepsAheadOf ∈ xWs := xin (i := 657) (by decide +kernel) (by decide +kernel)
theorem kp_code_yX6_stepsAheadOf : Cond.code yX6_stepsAheadOf cX6_stepsAheadOf 2 (some .int) ∈ xWs := xin (i := 658) (by decide +kernel) (by decide +kernel)
theorem km_X7_178 : Cond.methodLink RX7 178 yX4_lastLead ∈ xWs := xin (i := 663) (by decide +kernel) (by decide +kernel)
theorem kp_instanceMethod_yX4_lastLead : Cond.instanceMethod yX4_lastLead ∈ xWs := xin (i := 664) (by decide +kernel) (by decide +kernel)
theorem kp_selects_yX4_lastLead : Cond.selects RX4 yX4_lastLead yX4_lastLead ∈ xWs := xin (i := 665) (by decide +kernel) (by decide +kernel)
theorem kp_code_yX4_lastLead : Cond.code yX4_lastLead cX4_lastLead 2 (some .int) ∈ xWs := xin (i := 666) (by decide +kernel) (by decide +kernel)
theorem km_X7_181 : Cond.methodLink RX7 181 yX4_evenPairs ∈ xWs := xin (i := 667) (by decide +kernel) (by decide +kernel)
theorem kp_instanceMethod_yX4_evenPairs : Cond.instanceMethod yX4_evenPairs ∈ xWs := xin (i := 668) (by decide +kernel) (by decide +kernel)
theorem kp_selects_yX4_evenPairs : Cond.selects RX4 yX4_evenPairs yX4_evenPairs ∈ xWs := xin (i := 669) (by decide +kernel) (by decide +kernel)
theorem kp_code_yX4_evenPairs : Cond.code yX4_evenPairs cX4_evenPairs 4 (some .int) ∈ xWs := xin (i := 670) (by decide +kernel) (by decide +kernel)
theorem km_X4_51 : Cond.methodLink RX4 51 yX4_isEven ∈ xWs := xin (i := 671) (by decide +kernel) (by decide +kernel)
theorem kp_instanceMethod_yX4_isEven : Cond.instanceMethod yX4_isEven ∈ xWs := xin (i := 673) (by decide +kernel) (by decide +kernel)
theorem kp_selects_yX4_isEven : Cond.selects RX4 yX4_isEven yX4_isEven ∈ xWs := xin (i := 28) (by decide +kernel) (by decide +kernel)
theorem kp_code_yX4_isEven : Cond.code yX4_isEven cX4_isEven 3 (some .boolean) ∈ xWs := xin (i := 674) (by decide +kernel) (by decide +kernel)
theorem km_X4_55 : Cond.methodLink RX4 55 yX6_cellAtMark ∈ xWs := xin (i := 675) (by decide +kernel) (by decide +kernel)
theorem km_L_70 : Cond.methodLink RL 70 yX8_pairs ∈ xWs := xin (i := 981) (by decide +kernel) (by decide +kernel)
theorem kp_instanceMethod_yX8_pairs : Cond.instanceMethod yX8_pairs ∈ xWs := xin (i := 982) (by decide +kernel) (by decide +kernel)
theorem kp_selects_yX8_pairs : Cond.selects RX8 yX8_pairs yX8_pairs ∈ xWs := xin (i := 983) (by decide +kernel) (by decide +kernel)
theorem kp_code_yX8_pairs : Cond.code yX8_pairs cX8_pairs 5 (some .int) ∈ xWs := xin (i := 984) (by decide +kernel) (by decide +kernel)
theorem km_X8_192 : Cond.methodLink RX8 192 yX8_runsBoth ∈ xWs := xin (i := 985) (by decide +kernel) (by decide +kernel)
theorem kp_instanceMethod_yX8_runsBoth : Cond.instanceMethod yX8_runsBoth ∈ xWs := xin (i := 987) (by decide +kernel) (by decide +kernel)
theorem kp_selects_yX8_runsBoth : Cond.selects RX8 yX8_runsBoth yX8_runsBoth ∈ xWs := xin (i := 58) (by decide +kernel) (by decide +kernel)
theorem kp_code_yX8_runsBoth : Cond.code yX8_runsBoth cX8_runsBoth 3 none ∈ xWs := xin (i := 988) (by decide +kernel) (by decide +kernel)
theorem km_X8_183 : Cond.methodLink RX8 183 yX8_pairMany ∈ xWs := xin (i := 989) (by decide +kernel) (by decide +kernel)
theorem kp_instanceMethod_yX8_pairMany : Cond.instanceMethod yX8_pairMany ∈ xWs := xin (i := 991) (by decide +kernel) (by decide +kernel)
theorem kp_selects_yX8_pairMany : Cond.selects RX8 yX8_pairMany yX8_pairMany ∈ xWs := xin (i := 59) (by decide +kernel) (by decide +kernel)
theorem kp_code_yX8_pairMany : Cond.code yX8_pairMany cX8_pairMany 1 (some .int) ∈ xWs := xin (i := 992) (by decide +kernel) (by decide +kernel)
theorem km_X8_195 : Cond.methodLink RX8 195 yX8_allEqual ∈ xWs := xin (i := 993) (by decide +kernel) (by decide +kernel)
theorem kp_instanceMethod_yX8_allEqual : Cond.instanceMethod yX8_allEqual ∈ xWs := xin (i := 995) (by decide +kernel) (by decide +kernel)
theorem kp_selects_yX8_allEqual : Cond.selects RX8 yX8_allEqual yX8_allEqual ∈ xWs := xin (i := 60) (by decide +kernel) (by decide +kernel)
theorem kp_code_yX8_allEqual : Cond.code yX8_allEqual cX8_allEqual 5 (some .int) ∈ xWs := xin (i := 996) (by decide +kernel) (by decide +kernel)
theorem km_X8_189 : Cond.methodLink RX8 189 yX8_isEqual ∈ xWs := xin (i := 997) (by decide +kernel) (by decide +kernel)
theorem kp_instanceMethod_yX8_isEqual : Cond.instanceMethod yX8_isEqual ∈ xWs := xin (i := 999) (by decide +kernel) (by decide +kernel)
theorem kp_selects_yX8_isEqual : Cond.selects RX8 yX8_isEqual yX8_isEqual ∈ xWs := xin (i := 61) (by decide +kernel) (by decide +kernel)
theorem kp_code_yX8_isEqual : Cond.code yX8_isEqual cX8_isEqual 4 (some .boolean) ∈ xWs := xin (i := 1000) (by decide +kernel) (by decide +kernel)
theorem km_X8_198 : Cond.methodLink RX8 198 yX8_greatestLead ∈ xWs := xin (i := 1001) (by decide +kernel) (by decide +kernel)
theorem kp_instanceMethod_yX8_greatestLead : Cond.instanceMethod yX8_greatestLead ∈ xWs := xin (i := 1003) (by decide +kernel) (by decide +kernel)
theorem kp_selects_yX8_greatestLead : Cond.selects RX8 yX8_greatestLead yX8_greatestLead ∈ xWs := xin (i := 62) (by decide +kernel) (by decide +kernel)
theorem kp_code_yX8_greatestLead : Cond.code yX8_greatestLead cX8_greatestLead 4 (some .int) ∈ xWs := xin (i := 1004) (by decide +kernel) (by decide +kernel)
theorem km_X8_186 : Cond.methodLink RX8 186 yX8_leadOf ∈ xWs := xin (i := 1005) (by decide +kernel) (by decide +kernel)
theorem kp_instanceMethod_yX8_leadOf : Cond.instanceMethod yX8_leadOf ∈ xWs := xin (i := 1007) (by decide +kernel) (by decide +kernel)
theorem kp_selects_yX8_leadOf : Cond.selects RX8 yX8_leadOf yX8_leadOf ∈ xWs := xin (i := 63) (by decide +kernel) (by decide +kernel)
theorem kp_code_yX8_leadOf : Cond.code yX8_leadOf cX8_leadOf 2 (some .int) ∈ xWs := xin (i := 1008) (by decide +kernel) (by decide +kernel)
theorem km_L_71 : Cond.methodLink RL 71 yX7_equal ∈ xWs := xin (i := 676) (by decide +kernel) (by decide +kernel)
theorem kp_instanceMethod_yX7_equal : Cond.instanceMethod yX7_equal ∈ xWs := xin (i := 677) (by decide +kernel) (by decide +kernel)
theorem kp_selects_yX7_equal : Cond.selects RX7 yX7_equal yX7_equal ∈ xWs := xin (i := 678) (by decide +kernel) (by decide +kernel)
theorem kp_code_yX7_equal : Cond.code yX7_equal cX7_equal 4 (some .int) ∈ xWs := xin (i := 679) (by decide +kernel) (by decide +kernel)
theorem km_X7_184 : Cond.methodLink RX7 184 yX4_cellsEqualTo ∈ xWs := xin (i := 680) (by decide +kernel) (by decide +kernel)
theorem kp_instanceMethod_yX4_cellsEqualTo : Cond.instanceMethod yX4_cellsEqualTo ∈ xWs := xin (i := 681) (by decide +kernel) (by decide +kernel)
theorem kp_selects_yX4_cellsEqualTo : Cond.selects RX4 yX4_cellsEqualTo yX4_cellsEqualTo ∈ xWs := xin (i := 682) (by decide +kernel) (by decide +kernel)
theorem kp_code_yX4_cellsEqualTo : Cond.code yX4_cellsEqualTo cX4_cellsEqualTo 4 (some .int) ∈ xWs := xin (i := 683) (by decide +kernel) (by decide +kernel)
theorem km_X4_58 : Cond.methodLink RX4 58 yX4_isAlwaysSame ∈ xWs := xin (i := 684) (by decide +kernel) (by decide +kernel)
theorem kp_instanceMethod_yX4_isAlwaysSame : Cond.instanceMethod yX4_isAlwaysSame ∈ xWs := xin (i := 686) (by decide +kernel) (by decide +kernel)
theorem kp_selects_yX4_isAlwaysSame : Cond.selects RX4 yX4_isAlwaysSame yX4_isAlwaysSame ∈ xWs := xin (i := 29) (by decide +kernel) (by decide +kernel)
theorem kp_code_yX4_isAlwaysSame : Cond.code yX4_isAlwaysSame cX4_isAlwaysSame 5 (some .boolean) ∈ xWs := xin (i := 687) (by decide +kernel) (by decide +kernel)
theorem km_L_74 : Cond.methodLink RL 74 yX8_equal ∈ xWs := xin (i := 1009) (by decide +kernel) (by decide +kernel)
theorem kp_instanceMethod_yX8_equal : Cond.instanceMethod yX8_equal ∈ xWs := xin (i := 1010) (by decide +kernel) (by decide +kernel)
theorem kp_selects_yX8_equal : Cond.selects RX8 yX8_equal yX8_equal ∈ xWs := xin (i := 1011) (by decide +kernel) (by decide +kernel)
theorem kp_code_yX8_equal : Cond.code yX8_equal cX8_equal 4 (some .int) ∈ xWs := xin (i := 1012) (by decide +kernel) (by decide +kernel)
theorem km_X8_201 : Cond.methodLink RX8 201 yX8_equalTo ∈ xWs := xin (i := 1013) (by decide +kernel) (by decide +kernel)
theorem kp_instanceMethod_yX8_equalTo : Cond.instanceMethod yX8_equalTo ∈ xWs := xin (i := 1015) (by decide +kernel) (by decide +kernel)
theorem kp_selects_yX8_equalTo : Cond.selects RX8 yX8_equalTo yX8_equalTo ∈ xWs := xin (i := 64) (by decide +kernel) (by decide +kernel)
theorem kp_code_yX8_equalTo : Cond.code yX8_equalTo cX8_equalTo 6 (some .int) ∈ xWs := xin (i := 1016) (by decide +kernel) (by decide +kernel)
theorem km_L_75 : Cond.methodLink RL 75 yX7_difference ∈ xWs := xin (i := 688) (by decide +kernel) (by decide +kernel)
theorem kp_instanceMethod_yX7_difference : Cond.instanceMethod yX7_difference ∈ xWs := xin (i := 689) (by decide +kernel) (by decide +kernel)
theorem kp_selects_yX7_difference : Cond.selects RX7 yX7_difference yX7_difference ∈ xWs := xin (i := 690) (by decide +kernel) (by decide +kernel)
theorem kp_code_yX7_difference : Cond.code yX7_difference cX7_difference 3 (some .int) ∈ xWs := xin (i := 691) (by decide +kernel) (by decide +kernel)
theorem km_X7_192 : Cond.methodLink RX7 192 yX2_firstDifference ∈ xWs := xin (i := 692) (by decide +kernel) (by decide +kernel)
theorem kp_instanceMethod_yX2_firstDifference : Cond.instanceMethod yX2_firstDifference ∈ xWs := xin (i := 693) (by decide +kernel) (by decide +kernel)
theorem kp_selects_yX2_firstDifference : Cond.selects RX2 yX2_firstDifference yX2_firstDifference ∈ xWs := xin (i := 694) (by decide +kernel) (by decide +kernel)
theorem kp_code_yX2_firstDifference : Cond.code yX2_firstDifference cX2_firstDifference 3 (some .int) ∈ xWs := xin (i := 695) (by decide +kernel) (by decide +kernel)
theorem km_X2_39 : Cond.methodLink RX2 39 yX2_valueAt ∈ xWs := xin (i := 696) (by decide +kernel) (by decide +kernel)
theorem km_L_78 : Cond.methodLink RL 78 yX8_difference ∈ xWs := xin (i := 1017) (by decide +kernel) (by decide +kernel)
theorem kp_instanceMethod_yX8_difference : Cond.instanceMethod yX8_difference ∈ xWs := xin (i := 1018) (by decide +kernel) (by decide +kernel)
theorem kp_selects_yX8_difference : Cond.selects RX8 yX8_difference yX8_difference ∈ xWs := xin (i := 1019) (by decide +kernel) (by decide +kernel)
theorem kp_code_yX8_difference : Cond.code yX8_difference cX8_difference 3 (some .int) ∈ xWs := xin (i := 1020) (by decide +kernel) (by decide +kernel)
theorem km_X8_204 : Cond.methodLink RX8 204 yX8_firstDifference ∈ xWs := xin (i := 1021) (by decide +kernel) (by decide +kernel)
theorem kp_instanceMethod_yX8_firstDifference : Cond.instanceMethod yX8_firstDifference ∈ xWs := xin (i := 1023) (by decide +kernel) (by decide +kernel)
theorem kp_selects_yX8_firstDifference : Cond.selects RX8 yX8_firstDifference yX8_firstDifference ∈ xWs := xin (i := 65) (by decide +kernel) (by decide +kernel)
theorem kp_code_yX8_firstDifference : Cond.code yX8_firstDifference cX8_firstDifference 4 (some .int) ∈ xWs := xin (i := 1024) (by decide +kernel) (by decide +kernel)
theorem km_L_79 : Cond.methodLink RL 79 yX7_agree ∈ xWs := xin (i := 697) (by decide +kernel) (by decide +kernel)
theorem kp_instanceMethod_yX7_agree : Cond.instanceMethod yX7_agree ∈ xWs := xin (i := 698) (by decide +kernel) (by decide +kernel)
theorem kp_selects_yX7_agree : Cond.selects RX7 yX7_agree yX7_agree ∈ xWs := xin (i := 699) (by decide +kernel) (by decide +kernel)
theorem kp_code_yX7_agree : Cond.code yX7_agree cX7_agree 7 (some .int) ∈ xWs := xin (i := 700) (by decide +kernel) (by decide +kernel)
theorem km_X7_196 : Cond.methodLink RX7 196 yX4_inAgreement ∈ xWs := xin (i := 701) (by decide +kernel) (by decide +kernel)
theorem kp_instanceMethod_yX4_inAgreement : Cond.instanceMethod yX4_inAgreement ∈ xWs := xin (i := 702) (by decide +kernel) (by decide +kernel)
theorem kp_selects_yX4_inAgreement : Cond.selects RX4 yX4_inAgreement yX4_inAgreement ∈ xWs := xin (i := 703) (by decide +kernel) (by decide +kernel)
theorem kp_code_yX4_inAgreement : Cond.code yX4_inAgreement cX4_inAgreement 1 (some .boolean) ∈ xWs := xin (i := 704) (by decide +kernel) (by decide +kernel)
theorem km_X4_72 : Cond.methodLink RX4 72 yX2_hasValuesOf ∈ xWs := xin (i := 705) (by decide +kernel) (by decide +kernel)
theorem kp_instanceMethod_yX2_hasValuesOf : Cond.instanceMethod yX2_hasValuesOf ∈ xWs := xin (i := 706) (by decide +kernel) (by decide +kernel)
theorem kp_selects_yX2_hasValuesOf : Cond.selects RX2 yX2_hasValuesOf yX2_hasValuesOf ∈ xWs := xin (i := 707) (by decide +kernel) (by decide +kernel)
theorem kp_code_yX2_hasValuesOf : Cond.code yX2_hasValuesOf cX2_hasValuesOf 2 (some .boolean) ∈ xWs := xin (i := 708) (by decide +kernel) (by decide +kernel)
theorem km_X2_43 : Cond.methodLink RX2 43 yX2_firstDifference ∈ xWs := xin (i := 709) (by decide +kernel) (by decide +kernel)
theorem km_L_82 : Cond.methodLink RL 82 yX8_agree ∈ xWs := xin (i := 1025) (by decide +kernel) (by decide +kernel)
theorem kp_instanceMethod_yX8_agree : Cond.instanceMethod yX8_agree ∈ xWs := xin (i := 1026) (by decide +kernel) (by decide +kernel)
theorem kp_selects_yX8_agree : Cond.selects RX8 yX8_agree yX8_agree ∈ xWs := xin (i := 1027) (by decide +kernel) (by decide +kernel)
theorem kp_code_yX8_agree : Cond.code yX8_agree cX8_agree 11 (some .int) ∈ xWs := xin (i := 1028) (by decide +kernel) (by decide +kernel)
theorem km_X8_207 : Cond.methodLink RX8 207 yX8_agreeOn ∈ xWs := xin (i := 1029) (by decide +kernel) (by decide +kernel)
theorem kp_instanceMethod_yX8_agreeOn : Cond.instanceMethod yX8_agreeOn ∈ xWs := xin (i := 1031) (by decide +kernel) (by decide +kernel)
theorem kp_selects_yX8_agreeOn : Cond.selects RX8 yX8_agreeOn yX8_agreeOn ∈ xWs := xin (i := 66) (by decide +kernel) (by decide +kernel)
theorem kp_code_yX8_agreeOn : Cond.code yX8_agreeOn cX8_agreeOn 3 (some .boolean) ∈ xWs := xin (i := 1032) (by decide +kernel) (by decide +kernel)
theorem km_L_83 : Cond.methodLink RL 83 yX7_always ∈ xWs := xin (i := 710) (by decide +kernel) (by decide +kernel)
theorem kp_instanceMethod_yX7_always : Cond.instanceMethod yX7_always ∈ xWs := xin (i := 711) (by decide +kernel) (by decide +kernel)
theorem kp_selects_yX7_always : Cond.selects RX7 yX7_always yX7_always ∈ xWs := xin (i := 712) (by decide +kernel) (by decide +kernel)
theorem kp_code_yX7_always : Cond.code yX7_always cX7_always 4 (some .int) ∈ xWs := xin (i := 713) (by decide +kernel) (by decide +kernel)
theorem km_X7_199 : Cond.methodLink RX7 199 yX7_triedFirst ∈ xWs := xin (i := 714) (by decide +kernel) (by decide +kernel)
theorem kp_static_yX7_triedFirst : Cond.static yX7_triedFirst ∈ xWs := xin (i := 715) (by decide +kernel) (by decide +kernel)
theorem kp_code_yX7_triedFirst : Cond.code yX7_triedFirst cX7_triedFirst 1 (some .int) ∈ xWs := xin (i := 716) (by decide +kernel) (by decide +kernel)
theorem km_X7_202 : Cond.methodLink RX7 202 yX7_triedSecond ∈ xWs := xin (i := 717) (by decide +kernel) (by decide +kernel)
theorem kp_static_yX7_triedSecond : Cond.static yX7_triedSecond ∈ xWs := xin (i := 718) (by decide +kernel) (by decide +kernel)
theorem kp_code_yX7_triedSecond : Cond.code yX7_triedSecond cX7_triedSecond 1 (some .int) ∈ xWs := xin (i := 719) (by decide +kernel) (by decide +kernel)
theorem km_L_86 : Cond.methodLink RL 86 yX8_always ∈ xWs := xin (i := 1033) (by decide +kernel) (by decide +kernel)
theorem kp_instanceMethod_yX8_always : Cond.instanceMethod yX8_always ∈ xWs := xin (i := 1034) (by decide +kernel) (by decide +kernel)
theorem kp_selects_yX8_always : Cond.selects RX8 yX8_always yX8_always ∈ xWs := xin (i := 1035) (by decide +kernel) (by decide +kernel)
theorem kp_code_yX8_always : Cond.code yX8_always cX8_always 4 (some .int) ∈ xWs := xin (i := 1036) (by decide +kernel) (by decide +kernel)
theorem km_L_87 : Cond.methodLink RL 87 yX7_idle ∈ xWs := xin (i := 720) (by decide +kernel) (by decide +kernel)
theorem kp_instanceMethod_yX7_idle : Cond.instanceMethod yX7_idle ∈ xWs := xin (i := 721) (by decide +kernel) (by decide +kernel)
theorem kp_selects_yX7_idle : Cond.selects RX7 yX7_idle yX7_idle ∈ xWs := xin (i := 722) (by decide +kernel) (by decide +kernel)
theorem kp_code_yX7_idle : Cond.code yX7_idle cX7_idle 4 (some .int) ∈ xWs := xin (i := 723) (by decide +kernel) (by decide +kernel)
theorem km_X7_205 : Cond.methodLink RX7 205 yX7_keepOutputsOf ∈ xWs := xin (i := 724) (by decide +kernel) (by decide +kernel)
theorem kp_instanceMethod_yX7_keepOutputsOf : Cond.instanceMethod yX7_keepOutputsOf ∈ xWs := xin (i := 726) (by decide +kernel) (by decide +kernel)
theorem kp_selects_yX7_keepOutputsOf : Cond.selects RX7 yX7_keepOutputsOf yX7_keepOutputsOf ∈ xWs := xin (i := 30) (by decide +kernel) (by decide +kernel)
theorem kp_code_yX7_keepOutputsOf : Cond.code yX7_keepOutputsOf cX7_keepOutputsOf 4 none ∈ xWs := xin (i := 727) (by decide +kernel) (by decide +kernel)
theorem km_X7_215 : Cond.methodLink RX7 215 yX2_takeFrom ∈ xWs := xin (i := 728) (by decide +kernel) (by decide +kernel)
theorem kp_instanceMethod_yX2_takeFrom : Cond.instanceMethod yX2_takeFrom ∈ xWs := xin (i := 729) (by decide +kernel) (by decide +kernel)
theorem kp_selects_yX2_takeFrom : Cond.selects RX2 yX2_takeFrom yX2_takeFrom ∈ xWs := xin (i := 730) (by decide +kernel) (by decide +kernel)
theorem kp_code_yX2_takeFrom : Cond.code yX2_takeFrom cX2_takeFrom 2 none ∈ xWs := xin (i := 731) (by decide +kernel) (by decide +kernel)
theorem kf_X2_23 : Cond.fieldLink RX2 23 "PairedSteps$Output" "cutOff" "Z" ∈ xWs := xin (i := 212) (by decide +kernel) (by decide +kernel)
theorem km_X2_27 : Cond.methodLink RX2 27 arraycopyName ∈ xWs := xin (i := 732) (by decide +kernel) (by decide +kernel)
theorem km_X7_208 : Cond.methodLink RX7 208 yX7_putsOutAsBefore ∈ xWs := xin (i := 733) (by decide +kernel) (by decide +kernel)
theorem kp_instanceMethod_yX7_putsOutAsBefore : Cond.instanceMethod yX7_putsOutAsBefore ∈ xWs := xin (i := 735) (by decide +kernel) (by decide +kernel)
theorem kp_selects_yX7_putsOutAsBefore : Cond.selects RX7 yX7_putsOutAsBefore yX7_putsOutAsBefore ∈ xWs := xin (i := 31) (by decide +kernel) (by decide +kernel)
theorem kp_code_yX7_putsOutAsBefore : Cond.code yX7_putsOutAsBefore cX7_putsOutAsBefore 5 (some .boolean) ∈ xWs := xin (i := 736) (by decide +kernel) (by decide +kernel)
theorem km_X7_218 : Cond.methodLink RX7 218 yX2_hasValuesOf ∈ xWs := xin (i := 737) (by decide +kernel) (by decide +kernel)
theorem km_L_90 : Cond.methodLink RL 90 yX8_idle ∈ xWs := xin (i := 1037) (by decide +kernel) (by decide +kernel)
theorem kp_instanceMethod_yX8_idle : Cond.instanceMethod yX8_idle ∈ xWs := xin (i := 1038) (by decide +kernel) (by decide +kernel)
theorem kp_selects_yX8_idle : Cond.selects RX8 yX8_idle yX8_idle ∈ xWs := xin (i := 1039) (by decide +kernel) (by decide +kernel)
theorem kp_code_yX8_idle : Cond.code yX8_idle cX8_idle 3 (some .int) ∈ xWs := xin (i := 1040) (by decide +kernel) (by decide +kernel)
theorem km_X8_210 : Cond.methodLink RX8 210 yX8_keeps ∈ xWs := xin (i := 1041) (by decide +kernel) (by decide +kernel)
theorem kp_instanceMethod_yX8_keeps : Cond.instanceMethod yX8_keeps ∈ xWs := xin (i := 1043) (by decide +kernel) (by decide +kernel)
theorem kp_selects_yX8_keeps : Cond.selects RX8 yX8_keeps yX8_keeps ∈ xWs := xin (i := 67) (by decide +kernel) (by decide +kernel)
theorem kp_code_yX8_keeps : Cond.code yX8_keeps cX8_keeps 4 none ∈ xWs := xin (i := 1044) (by decide +kernel) (by decide +kernel)
theorem km_X8_213 : Cond.methodLink RX8 213 yX8_isIdle ∈ xWs := xin (i := 1045) (by decide +kernel) (by decide +kernel)
theorem kp_instanceMethod_yX8_isIdle : Cond.instanceMethod yX8_isIdle ∈ xWs := xin (i := 1047) (by decide +kernel) (by decide +kernel)
theorem kp_selects_yX8_isIdle : Cond.selects RX8 yX8_isIdle yX8_isIdle ∈ xWs := xin (i := 68) (by decide +kernel) (by decide +kernel)
theorem kp_code_yX8_isIdle : Cond.code yX8_isIdle cX8_isIdle 6 (some .boolean) ∈ xWs := xin (i := 1048) (by decide +kernel) (by decide +kernel)
theorem inxX7 : ∀ w ∈ wsX70, w ∈ xWs := xinL [276, 278, 280, 282, 284, 286, 288, 290] (by decide +kernel) (by decide +kernel)
theorem inxX8 : ∀ w ∈ wsX80, w ∈ xWs := xinL [764, 766, 768, 770, 772, 774, 776, 778, 780, 782, 784, 786, 788, 790, 792, 794, 796, 798, 800, 802] (by decide +kernel) (by decide +kernel)
theorem inxX5 : ∀ w ∈ wsX50, w ∈ xWs := xinL [98, 100] (by decide +kernel) (by decide +kernel)
theorem inxX1 : ∀ w ∈ wsX10, w ∈ xWs := xinL [122, 124, 126, 128, 130, 132, 134, 136, 138, 140] (by decide +kernel) (by decide +kernel)
theorem inxX3 : ∀ w ∈ wsX30, w ∈ xWs := xinL [157, 159, 161, 163, 165, 167] (by decide +kernel) (by decide +kernel)
theorem inxX0 : ∀ w ∈ wsX00, w ∈ xWs := xinL [183, 185, 187] (by decide +kernel) (by decide +kernel)
theorem inxX4 : ∀ w ∈ wsX40, w ∈ xWs := xinL [260, 262] (by decide +kernel) (by decide +kernel)
theorem inxX2 : ∀ w ∈ wsX20, w ∈ xWs := xinL [215, 217, 219] (by decide +kernel) (by decide +kernel)
theorem inxX6 : ∀ w ∈ wsX60, w ∈ xWs := xinL [237, 239, 241, 243, 245, 247, 249, 251, 253] (by decide +kernel) (by decide +kernel)
theorem xnest : ∀ w ∈ xNest, w ∈ xWs := xinL [91, 97, 106, 111, 112, 156, 178, 182, 192, 198, 204, 210, 211, 213, 214, 223, 224, 230, 232, 234, 236, 257, 259, 267, 308, 339, 356, 371, 436, 561, 587, 592] (by decide +kernel) (by decide +kernel)
end
section
/-! THE X LAYER: one judgement over a memory that is a function of addresses; each row of it is one instruction, proved here once out of the kit's rows. -/
abbrev xC : Type := (Nat × Nat × (Nat → Int32)) ⊕ ((Nat × Nat × (Nat → Option Nat)) ⊕ (Nat × List Value))
abbrev xM : Type := (Nat → xC) × (Nat × Nat)
abbrev aI (t n : Nat) (g : Nat → Int32) : xC := .inl (t, n, g)
abbrev aR (t n : Nat) (r : Nat → Option Nat) : xC := .inr (.inl (t, n, r))
abbrev ob (ci : Nat) (fs : List Value) : xC := .inr (.inr (ci, fs))
def xAbs : xC := .inr (.inr (999, []))
def xtr (aC : Nat → ClassId) (c : xC) : va_E := match c with
  | .inl (t, n, g) => .inl (aC t, n, .inl g)
  | .inr (.inl (t, n, r)) => .inl (aC t, n, .inr (.inr (.inr (.inr r))))
  | .inr (.inr o) => .inr o
abbrev xG : Type := Launch × va_G × (Nat → ClassId) × Nat
def xTy (t : Nat) : FieldType := match t with
  | 0 => .int
  | 1 => .char
  | 2 => .object RX1
  | _ => .object RX2
def xu (f : Nat → xC) (a : Nat) (c : xC) : Nat → xC := fun q => if q = a then c else f q
theorem xu_s (f : Nat → xC) (a : Nat) (c : xC) : xu f a c a = c := by simp [xu]
theorem xu_n (f : Nat → xC) {a q : Nat} (c : xC) (h : q ≠ a) : xu f a c q = f q := by simp [xu, h]
/-- the world: each cell that is there stands in the heap -/
def xw (G : xG) (M : xM) (H : Heap) : Prop := H.size = M.2.1 ∧ G.2.2.2 ≤ M.2.1 ∧ ∀ a, M.1 a ≠ xAbs → G.2.2.2 ≤ a ∧ a < M.2.1 ∧ va_at G.2.1 vwCl (a, xtr G.2.2.1 (M.1 a)) H
theorem xWs_tab {w : Cond} (h : w ∈ xWs) : w.onTables = true := by
  have h2 := (List.mem_filter.mp h).2
  simp only [xWB, Bool.and_eq_true] at h2
  exact h2.1
theorem xWs_or {w : Cond} (h : w ∈ xWs) : goodWord w = true ∨ xNestB w = true := by
  have h2 := (List.mem_filter.mp h).2
  simp only [xWB, Bool.and_eq_true, Bool.or_eq_true] at h2
  exact h2.2
/-- what holds of the tables at each state -/
def xk (G : xG) (U : State) : Prop := (∀ w ∈ xWs, w.before #[] U = true) ∧ (∀ (c : Nat) (q : vw_C), vwCl[c]? = some q → u_Kn U q.1 q.2.1 q.2.2 (G.2.1.1 c) (G.2.1.2 c)) ∧ (∀ t, t < 4 → ArrOfT U (G.2.2.1 t) (xTy t) ∧ va_RA U (G.2.2.1 t) (xTy t)) ∧
  ((∀ A, (Cond.arrayClass .int).before A U = true) ∧ ∀ A, (Cond.arrayClass .char).before A U = true) ∧ va_AO RX1 U ∧ va_AO RX2 U
theorem xk_moved {G : xG} {s U : State} (hW : s.WarmedH U.vm) (h : xk G s) : xk G U := by
  obtain ⟨h1, h2, h3, h4, h5, h6⟩ := h
  refine ⟨fun w hw => ?_, fun c q hq => u_Kn_moved hW.alike (h2 c q hq), fun t ht => ⟨arrOfT_moved hW.alike (h3 t ht).1, (h3 t ht).2.moved hW.alike⟩, ⟨fun A => word_at hW (Or.inr ⟨_, rfl⟩) (h4.1 A), fun A => word_at hW (Or.inr ⟨_, rfl⟩) (h4.2 A)⟩, h5.moved hW.alike, h6.moved hW.alike⟩
  rcases xWs_or hw with hg | hg
  · exact word_at hW (good_of_word hg) (h1 w hw)
  · have h0 := h1 w hw
    cases w <;> first | exact va_Nw.warmF hW h0 | exact va_Nw.warmM hW h0 | cases hg
theorem xk_same {G : xG} {s U : State} (he : U.vm = s.vm) (h : xk G s) : xk G U := xk_moved (by rw [he]; exact State.WarmedH.refl s) h
theorem xk_ts {G : xG} {s : State} (h : xk G s) (args : Array Value) : ∀ w ∈ xWs, w.before args s = true := fun w hw => va_Nw.use (xWs_tab hw) (h.1 w hw)
abbrev xY : Type := MethodName × ByteArray × Nat × Option FieldType
/-- the end of a method: its answer v and the memory M' behind it, of which Q holds -/
def xPost (G : xG) (lim : Nat × Nat) (Q : Option Value → xM → Prop) : Array Value → State → Outcome → State → Prop := fun _ st oc t =>
  (∃ (v : Option Value) (M' : xM), oc = .returned v ∧ Q v M' ∧ M'.2 = lim ∧ xw G M' t.heap) ∧ va_F (fun q => G.2.2.2 ≤ q) st t
/-- a method's contract: from the arguments av and the memory M it ends, with Q -/
def xMet (G : xG) (d : Nat) (y : xY) (av : List Value) (M : xM) (lim : Nat × Nat) (Q : Option Value → xM → Prop) : Prop :=
  (M.2.1 ≤ lim.1 ∧ M.2.2 ≤ lim.2) ∧ Met G.1 y.1 [Cond.code y.1 y.2.1 y.2.2.1 y.2.2.2] { frames := d, cells := lim.1 - M.2.1, slots := lim.2 - M.2.2, locals := 38 * d } (va_Pc av (fun U => xw G M U.heap ∧ xk G U)) (xPost G lim Q) (lim.1 - M.2.1) (lim.2 - M.2.2) (fun q => G.2.2.2 ≤ q)
abbrev xF : Type := Program → Env → Room → State → MethodId → Array Value → List Frame → Method → Code → (State → Prop) → Prop
def xCx (G : xG) (d : Nat) (y : xY) (r0 lim : Nat × Nat) (p : Program) (R : Room) (s : State) (m : MethodId) (meth : Method) (c : Code) : Prop :=
  p.tables.exec = Jvm.exec ∧ c.code = y.2.1 ∧ meth.sig.returnType = y.2.2.2 ∧ c.maxLocals = y.2.2.1 ∧ s.vm.findClass y.1.cls = some m.cls ∧ meth.name = y.1.name ∧ meth.locks = false ∧ xk G s ∧ s.heap.size = r0.1 ∧ G.2.2.2 ≤ r0.1 ∧ d ≤ R.frames ∧ 38 * d ≤ R.locals ∧ lim.1 - r0.1 ≤ R.cells ∧ lim.2 - r0.2 ≤ R.slots
/-- the locals -/
def xl (lo : Array Slot) (nL : Nat) (ls : List (Nat × Value)) : Prop := lv_has lo nL ls ∧ ∀ q ∈ ls, q.2.category = 1
def xlk (ls : List (Nat × Value)) (i : Nat) : Option Value := match ls with
  | [] => none
  | (j, w) :: l => match Nat.beq j i with
    | true => some w
    | false => xlk l i
def xst (ls : List (Nat × Value)) (i : Nat) (v : Value) : List (Nat × Value) := match ls with
  | [] => [(i, v)]
  | (j, w) :: l => match Nat.beq j i with
    | true => (i, v) :: l.filter (fun q => !(Nat.beq q.1 i))
    | false => (j, w) :: xst l i v
theorem xlk_mem {i : Nat} {v : Value} : ∀ {ls : List (Nat × Value)}, xlk ls i = some v → (i, v) ∈ ls
  | [], h => by cases h
  | (j, w) :: l, h => by
    unfold xlk at h
    cases hb : Nat.beq j i with
    | true =>
      rw [hb] at h
      have hj := Nat.eq_of_beq_eq_true hb
      cases h
      subst hj
      exact List.mem_cons_self
    | false =>
      rw [hb] at h
      exact List.mem_cons_of_mem _ (xlk_mem h)
theorem xst_mem {i : Nat} {v : Value} : ∀ {ls : List (Nat × Value)} {q : Nat × Value}, q ∈ xst ls i v → q = (i, v) ∨ (q ∈ ls ∧ q.1 ≠ i)
  | [], q, h => Or.inl (List.mem_singleton.mp h)
  | (j, w) :: l, q, h => by
    unfold xst at h
    cases hb : Nat.beq j i with
    | true =>
      rw [hb] at h
      rcases List.mem_cons.mp h with h | h
      · exact Or.inl h
      · obtain ⟨h1, h2⟩ := List.mem_filter.mp h
        refine Or.inr ⟨List.mem_cons_of_mem _ h1, fun e => ?_⟩
        rw [e, Nat.beq_refl] at h2
        cases h2
    | false =>
      rw [hb] at h
      rcases List.mem_cons.mp h with h | h
      · refine Or.inr ⟨by rw [h]; exact List.mem_cons_self, fun e => ?_⟩
        rw [h] at e
        have e : j = i := e
        rw [e, Nat.beq_refl] at hb
        cases hb
      · rcases xst_mem h with h | ⟨h1, h2⟩
        · exact Or.inl h
        · exact Or.inr ⟨List.mem_cons_of_mem _ h1, h2⟩
theorem xl_at {lo : Array Slot} {nL i : Nat} {ls : List (Nat × Value)} {v : Value} (h : xl lo nL ls) (hk : xlk ls i = some v) : lo[i]? = some (.val v) := h.1.2.2 (i, v) (xlk_mem hk)
theorem xl_st {lo lo2 : Array Slot} {nL i : Nat} {ls : List (Nat × Value)} {v : Value} (h : xl lo nL ls) (hv : v.category = 1) (h2 : lv_has lo2 nL ((i, v) :: ls.filter (fun q => !(q.1 == i) && !(q.1 + 1 == i && q.2.category == 2)))) : xl lo2 nL (xst ls i v) := by
  refine ⟨⟨h2.1, h2.2.1, fun q hq => ?_⟩, fun q hq => ?_⟩
  · rcases xst_mem hq with e | ⟨h3, h4⟩
    · rw [e]; exact h2.2.2 (i, v) List.mem_cons_self
    · refine h2.2.2 q (List.mem_cons_of_mem _ (List.mem_filter.mpr ⟨h3, ?_⟩))
      simp [h4, h.2 q h3]
  · rcases xst_mem hq with e | ⟨h3, h4⟩
    · rw [e]; exact hv
    · exact h.2 q h3
/-- THE JUDGEMENT: at pc, with locals ls, stack st and memory M, the method comes to its end -/
def xX (G : xG) (d : Nat) (y : xY) (r0 lim : Nat × Nat) (Φ : xF) (pc : Nat) (ls : List (Nat × Value)) (st : List Value) (M : xM) : Prop :=
  ∀ (p : Program) (e : Env) (R : Room) (s : State) (m : MethodId) (args : Array Value) (below : List Frame) (meth : Method) (c : Code) (Zf : State → Prop) (H : Heap) (locs : List Loc) (lo : Array Slot),
    Φ p e R s m args below meth c Zf → xCx G d y r0 lim p R s m meth c → xw G M H → va_S (fun q => G.2.2.2 ≤ q) s.heap H locs → xl lo y.2.2.1 ls → (r0.1 ≤ M.2.1 ∧ r0.2 ≤ M.2.2 ∧ M.2.1 ≤ lim.1 ∧ M.2.2 ≤ lim.2) →
      W p G.1 e R s m args below meth c H locs (M.2.1 - r0.1) (M.2.2 - r0.2) Zf (F0 m pc lo st)
/-- the frame of a method with a contract -/
def xΦ (G : xG) (r0 lim : Nat × Nat) (Q : Option Value → xM → Prop) : xF := fun _ _ _ s _ args below _ _ Zf => Zf = MQ below (xPost G lim Q) args s (lim.1 - r0.1) (lim.2 - r0.2) (fun q => G.2.2.2 ≤ q)
theorem xMet_of {G : xG} {d : Nat} {y : xY} {av : List Value} {M : xM} {lim : Nat × Nat} {Q : Option Value → xM → Prop} (hy : plainName y.1.cls = true) (hlim : M.2.1 ≤ lim.1 ∧ M.2.2 ≤ lim.2) (hav : av.all (fun v => v.category == 1) = true) (hlen : (lg_sl av).length ≤ y.2.2.1)
    (k : xX G d y M.2 lim (xΦ G M.2 lim Q) 0 (lv_args 0 av) [] M) : xMet G d y av M lim Q := by
  refine ⟨hlim, ?_⟩
  refine Met.ofW (cc := y.2.1) (maxL := y.2.2.1) (ret := y.2.2.2) hy rfl ?_
  intro p e s m args below meth c s₁ B hml hv
  obtain ⟨rfl, hw, hk⟩ := hv
  have hl := lv_entry av (n := y.2.2.1) hlen
  rw [lg_entry_eq]
  have hin : meth.name = y.1.name := (name_of_methodNamed B.named B.method).1
  refine W.cs (cells' := M.2.1 - M.2.1) (slots' := M.2.2 - M.2.2) (by omega) (by omega) ?_
  refine k p e _ s m _ below meth c _ s.heap [] _ rfl ⟨B.exec, B.bytes, B.returns, hml, findClass_of_methodNamed B.named, hin, B.notSynchronized, hk, hw.1, hw.2.1, Nat.le_refl _, Nat.le_refl _, Nat.le_refl _, Nat.le_refl _⟩ hw va_S.rf ⟨hl, ?_⟩ ⟨Nat.le_refl _, Nat.le_refl _, hlim.1, hlim.2⟩
  intro q hq
  have key : ∀ (vs : List Value) (i : Nat), vs.all (fun v => v.category == 1) = true → ∀ q ∈ lv_args i vs, q.2.category = 1 := by
    intro vs
    induction vs with
    | nil => intro i _ q hq; cases hq
    | cons v vs ih =>
      intro i hall q hq
      simp only [List.all_cons, Bool.and_eq_true, beq_iff_eq] at hall
      simp only [lv_args, List.mem_cons] at hq
      rcases hq with rfl | hq
      · exact hall.1
      · exact ih _ hall.2 q hq
  exact key av 0 hav q hq
end
section
/-! THE ROWS of the X layer -/
section XR
variable {G : xG} {d : Nat} {y : xY} {r0 lim : Nat × Nat} {Φ : xF} {ls : List (Nat × Value)} {st : List Value} {M : xM} {pc n : Nat}
theorem xX.eq {pc' : Nat} {ls' : List (Nat × Value)} {st' : List Value} {M' : xM} (h1 : pc' = pc) (h2 : ls' = ls) (h3 : st' = st) (h4 : M' = M) (k : xX G d y r0 lim Φ pc' ls' st' M') : xX G d y r0 lim Φ pc ls st M := by
  subst h1; subst h2; subst h3; subst h4; exact k
theorem xr_iconst {z : Int} {v : Int32} (hd : decode y.2.1 pc = .ok (.iconst z, 1)) (hv : Int32.ofInt z = v) (hn : pc + 1 = n) (k : xX G d y r0 lim Φ n ls (.int v :: st) M) : xX G d y r0 lim Φ pc ls st M := by
  subst hn
  intro p e R s m args below meth c Zf H locs lo hΦ hC hw hS hl hb
  exact lv_iconst hC.1 hC.2.1 hd hv (k p e R s m args below meth c Zf H locs lo hΦ hC hw hS hl hb)
theorem xr_bipush {z : Int} {v : Int32} (hd : decode y.2.1 pc = .ok (.bipush z, 2)) (hv : (Int8.ofInt z).toInt32 = v) (hn : pc + 2 = n) (k : xX G d y r0 lim Φ n ls (.int v :: st) M) : xX G d y r0 lim Φ pc ls st M := by
  subst hn
  intro p e R s m args below meth c Zf H locs lo hΦ hC hw hS hl hb
  exact lv_bipush hC.1 hC.2.1 hd hv (k p e R s m args below meth c Zf H locs lo hΦ hC hw hS hl hb)
theorem xr_sipush {z : Int} {v : Int32} (hd : decode y.2.1 pc = .ok (.sipush z, 3)) (hv : (Int16.ofInt z).toInt32 = v) (hn : pc + 3 = n) (k : xX G d y r0 lim Φ n ls (.int v :: st) M) : xX G d y r0 lim Φ pc ls st M := by
  subst hn
  intro p e R s m args below meth c Zf H locs lo hΦ hC hw hS hl hb
  exact lv_sipush hC.1 hC.2.1 hd hv (k p e R s m args below meth c Zf H locs lo hΦ hC hw hS hl hb)
theorem xr_iload_n {k4 : Fin 4} {x : Int32} (hd : decode y.2.1 pc = .ok (.iload_n k4, 1)) (hl0 : xlk ls k4.val = some (.int x)) (hn : pc + 1 = n) (k : xX G d y r0 lim Φ n ls (.int x :: st) M) : xX G d y r0 lim Φ pc ls st M := by
  subst hn
  intro p e R s m args below meth c Zf H locs lo hΦ hC hw hS hl hb
  exact lv_iload_n hC.1 hC.2.1 hd rfl (xl_at hl hl0) (k p e R s m args below meth c Zf H locs lo hΦ hC hw hS hl hb)
theorem xr_iload {i : Nat} {x : Int32} (hd : decode y.2.1 pc = .ok (.iload i, 2)) (hl0 : xlk ls i = some (.int x)) (hn : pc + 2 = n) (k : xX G d y r0 lim Φ n ls (.int x :: st) M) : xX G d y r0 lim Φ pc ls st M := by
  subst hn
  intro p e R s m args below meth c Zf H locs lo hΦ hC hw hS hl hb
  exact lv_iload hC.1 hC.2.1 hd (xl_at hl hl0) (k p e R s m args below meth c Zf H locs lo hΦ hC hw hS hl hb)
theorem xr_aload_n {k4 : Fin 4} {x : Nat} (hd : decode y.2.1 pc = .ok (.aload_n k4, 1)) (hl0 : xlk ls k4.val = some (.ref x)) (hn : pc + 1 = n) (k : xX G d y r0 lim Φ n ls (.ref x :: st) M) : xX G d y r0 lim Φ pc ls st M := by
  subst hn
  intro p e R s m args below meth c Zf H locs lo hΦ hC hw hS hl hb
  exact lv_aload_n hC.1 hC.2.1 hd rfl (xl_at hl hl0) (k p e R s m args below meth c Zf H locs lo hΦ hC hw hS hl hb)
theorem xr_aload {i : Nat} {x : Nat} (hd : decode y.2.1 pc = .ok (.aload i, 2)) (hl0 : xlk ls i = some (.ref x)) (hn : pc + 2 = n) (k : xX G d y r0 lim Φ n ls (.ref x :: st) M) : xX G d y r0 lim Φ pc ls st M := by
  subst hn
  intro p e R s m args below meth c Zf H locs lo hΦ hC hw hS hl hb
  exact lv_aload hC.1 hC.2.1 hd (xl_at hl hl0) (k p e R s m args below meth c Zf H locs lo hΦ hC hw hS hl hb)
theorem xr_istore_n {k4 : Fin 4} {x : Int32} (hd : decode y.2.1 pc = .ok (.istore_n k4, 1)) (hi : Nat.blt k4.val y.2.2.1 = true) (hn : pc + 1 = n) (k : xX G d y r0 lim Φ n (xst ls k4.val (.int x)) st M) : xX G d y r0 lim Φ pc ls (.int x :: st) M := by
  subst hn
  intro p e R s m args below meth c Zf H locs lo hΦ hC hw hS hl hb
  exact lv_istore_n hC.1 hC.2.1 hd rfl hl.1 (Nat.le_of_ble_eq_true hi) rfl (fun lo2 h2 => k p e R s m args below meth c Zf H locs lo2 hΦ hC hw hS (xl_st hl rfl h2) hb)
theorem xr_istore {i : Nat} {x : Int32} (hd : decode y.2.1 pc = .ok (.istore i, 2)) (hi : Nat.blt i y.2.2.1 = true) (hn : pc + 2 = n) (k : xX G d y r0 lim Φ n (xst ls i (.int x)) st M) : xX G d y r0 lim Φ pc ls (.int x :: st) M := by
  subst hn
  intro p e R s m args below meth c Zf H locs lo hΦ hC hw hS hl hb
  exact lv_istore hC.1 hC.2.1 hd hl.1 (Nat.le_of_ble_eq_true hi) rfl (fun lo2 h2 => k p e R s m args below meth c Zf H locs lo2 hΦ hC hw hS (xl_st hl rfl h2) hb)
theorem xr_astore_n {k4 : Fin 4} {x : Nat} (hd : decode y.2.1 pc = .ok (.astore_n k4, 1)) (hi : Nat.blt k4.val y.2.2.1 = true) (hn : pc + 1 = n) (k : xX G d y r0 lim Φ n (xst ls k4.val (.ref x)) st M) : xX G d y r0 lim Φ pc ls (.ref x :: st) M := by
  subst hn
  intro p e R s m args below meth c Zf H locs lo hΦ hC hw hS hl hb
  exact lv_astore_n hC.1 hC.2.1 hd rfl hl.1 (Nat.le_of_ble_eq_true hi) rfl (fun lo2 h2 => k p e R s m args below meth c Zf H locs lo2 hΦ hC hw hS (xl_st hl rfl h2) hb)
theorem xr_astore {i : Nat} {x : Nat} (hd : decode y.2.1 pc = .ok (.astore i, 2)) (hi : Nat.blt i y.2.2.1 = true) (hn : pc + 2 = n) (k : xX G d y r0 lim Φ n (xst ls i (.ref x)) st M) : xX G d y r0 lim Φ pc ls (.ref x :: st) M := by
  subst hn
  intro p e R s m args below meth c Zf H locs lo hΦ hC hw hS hl hb
  exact lv_astore hC.1 hC.2.1 hd hl.1 (Nat.le_of_ble_eq_true hi) rfl (fun lo2 h2 => k p e R s m args below meth c Zf H locs lo2 hΦ hC hw hS (xl_st hl rfl h2) hb)
theorem xl_place {i : Nat} {v : Value} : ∀ {ls : List (Nat × Value)}, xlk ls i = some v → ∃ k : Nat, ls[k]? = some (i, v) := fun h => List.getElem?_of_mem (xlk_mem h)
theorem xr_iinc {i : Nat} {z : Int} {x v : Int32} (hd : decode y.2.1 pc = .ok (.iinc i z, 3)) (hi : Nat.blt i y.2.2.1 = true) (hl0 : xlk ls i = some (.int x)) (hv : x + Int32.ofInt z = v) (hn : pc + 3 = n) (k : xX G d y r0 lim Φ n (xst ls i (.int v)) st M) : xX G d y r0 lim Φ pc ls st M := by
  subst hn
  intro p e R s m args below meth c Zf H locs lo hΦ hC hw hS hl hb
  obtain ⟨k9, h9⟩ := xl_place hl0
  exact lv_iinc hC.1 hC.2.1 hd hl.1 h9 hv (Nat.le_of_ble_eq_true hi) rfl (fun lo2 h2 => k p e R s m args below meth c Zf H locs lo2 hΦ hC hw hS (xl_st hl rfl h2) hb)
theorem xr_iadd {a b : Int32} (hd : decode y.2.1 pc = .ok (.iadd, 1)) (hn : pc + 1 = n) (k : xX G d y r0 lim Φ n ls (.int (a + b) :: st) M) : xX G d y r0 lim Φ pc ls (.int b :: .int a :: st) M := by
  subst hn
  intro p e R s m args below meth c Zf H locs lo hΦ hC hw hS hl hb
  exact lv_iadd hC.1 hC.2.1 hd (k p e R s m args below meth c Zf H locs lo hΦ hC hw hS hl hb)
theorem xr_isub {a b : Int32} (hd : decode y.2.1 pc = .ok (.isub, 1)) (hn : pc + 1 = n) (k : xX G d y r0 lim Φ n ls (.int (a - b) :: st) M) : xX G d y r0 lim Φ pc ls (.int b :: .int a :: st) M := by
  subst hn
  intro p e R s m args below meth c Zf H locs lo hΦ hC hw hS hl hb
  exact lv_isub hC.1 hC.2.1 hd (k p e R s m args below meth c Zf H locs lo hΦ hC hw hS hl hb)
theorem xr_imul {a b : Int32} (hd : decode y.2.1 pc = .ok (.imul, 1)) (hn : pc + 1 = n) (k : xX G d y r0 lim Φ n ls (.int (a * b) :: st) M) : xX G d y r0 lim Φ pc ls (.int b :: .int a :: st) M := by
  subst hn
  intro p e R s m args below meth c Zf H locs lo hΦ hC hw hS hl hb
  exact lv_imul hC.1 hC.2.1 hd (k p e R s m args below meth c Zf H locs lo hΦ hC hw hS hl hb)
theorem xr_iand {a b : Int32} (hd : decode y.2.1 pc = .ok (.iand, 1)) (hn : pc + 1 = n) (k : xX G d y r0 lim Φ n ls (.int (a &&& b) :: st) M) : xX G d y r0 lim Φ pc ls (.int b :: .int a :: st) M := by
  subst hn
  intro p e R s m args below meth c Zf H locs lo hΦ hC hw hS hl hb
  exact lv_iand hC.1 hC.2.1 hd (k p e R s m args below meth c Zf H locs lo hΦ hC hw hS hl hb)
theorem xr_ior {a b : Int32} (hd : decode y.2.1 pc = .ok (.ior, 1)) (hn : pc + 1 = n) (k : xX G d y r0 lim Φ n ls (.int (a ||| b) :: st) M) : xX G d y r0 lim Φ pc ls (.int b :: .int a :: st) M := by
  subst hn
  intro p e R s m args below meth c Zf H locs lo hΦ hC hw hS hl hb
  exact lv_ior hC.1 hC.2.1 hd (k p e R s m args below meth c Zf H locs lo hΦ hC hw hS hl hb)
theorem xr_ishl {a b : Int32} (hd : decode y.2.1 pc = .ok (.ishl, 1)) (hn : pc + 1 = n) (k : xX G d y r0 lim Φ n ls (.int (a <<< (b &&& 31)) :: st) M) : xX G d y r0 lim Φ pc ls (.int b :: .int a :: st) M := by
  subst hn
  intro p e R s m args below meth c Zf H locs lo hΦ hC hw hS hl hb
  exact lv_ishl hC.1 hC.2.1 hd (k p e R s m args below meth c Zf H locs lo hΦ hC hw hS hl hb)
theorem xr_idiv {a b : Int32} (hd : decode y.2.1 pc = .ok (.idiv, 1)) (h0 : ¬ b = 0) (hn : pc + 1 = n) (k : xX G d y r0 lim Φ n ls (.int (a / b) :: st) M) : xX G d y r0 lim Φ pc ls (.int b :: .int a :: st) M := by
  subst hn
  intro p e R s m args below meth c Zf H locs lo hΦ hC hw hS hl hb
  exact lv_idiv hC.1 hC.2.1 hd h0 (k p e R s m args below meth c Zf H locs lo hΦ hC hw hS hl hb)
theorem xr_irem {a b : Int32} (hd : decode y.2.1 pc = .ok (.irem, 1)) (h0 : ¬ b = 0) (hn : pc + 1 = n) (k : xX G d y r0 lim Φ n ls (.int (a - a / b * b) :: st) M) : xX G d y r0 lim Φ pc ls (.int b :: .int a :: st) M := by
  subst hn
  intro p e R s m args below meth c Zf H locs lo hΦ hC hw hS hl hb
  exact lv_irem hC.1 hC.2.1 hd h0 (k p e R s m args below meth c Zf H locs lo hΦ hC hw hS hl hb)
theorem xr_ineg {a : Int32} (hd : decode y.2.1 pc = .ok (.ineg, 1)) (hn : pc + 1 = n) (k : xX G d y r0 lim Φ n ls (.int (-a) :: st) M) : xX G d y r0 lim Φ pc ls (.int a :: st) M := by
  subst hn
  intro p e R s m args below meth c Zf H locs lo hΦ hC hw hS hl hb
  exact lv_ineg hC.1 hC.2.1 hd (k p e R s m args below meth c Zf H locs lo hΦ hC hw hS hl hb)
theorem xr_i2c {a v : Int32} (hd : decode y.2.1 pc = .ok (.i2c, 1)) (hv : (a.toUInt32 % 65536).toInt32 = v) (hn : pc + 1 = n) (k : xX G d y r0 lim Φ n ls (.int v :: st) M) : xX G d y r0 lim Φ pc ls (.int a :: st) M := by
  subst hn
  intro p e R s m args below meth c Zf H locs lo hΦ hC hw hS hl hb
  exact lv_i2c hC.1 hC.2.1 hd hv (k p e R s m args below meth c Zf H locs lo hΦ hC hw hS hl hb)
theorem xr_dup {a : Value} (hd : decode y.2.1 pc = .ok (.dup, 1)) (ha : a.category = 1) (hn : pc + 1 = n) (k : xX G d y r0 lim Φ n ls (a :: a :: st) M) : xX G d y r0 lim Φ pc ls (a :: st) M := by
  subst hn
  intro p e R s m args below meth c Zf H locs lo hΦ hC hw hS hl hb
  exact lv_dup hC.1 hC.2.1 hd ha (k p e R s m args below meth c Zf H locs lo hΦ hC hw hS hl hb)
theorem xr_dup2 {a b : Value} (hd : decode y.2.1 pc = .ok (.dup2, 1)) (ha : a.category = 1) (hb2 : b.category = 1) (hn : pc + 1 = n) (k : xX G d y r0 lim Φ n ls (a :: b :: a :: b :: st) M) : xX G d y r0 lim Φ pc ls (a :: b :: st) M := by
  subst hn
  intro p e R s m args below meth c Zf H locs lo hΦ hC hw hS hl hb
  exact lv_dup2_11 hC.1 hC.2.1 hd ha hb2 (k p e R s m args below meth c Zf H locs lo hΦ hC hw hS hl hb)
theorem xr_pop {a : Value} (hd : decode y.2.1 pc = .ok (.pop, 1)) (ha : a.category = 1) (hn : pc + 1 = n) (k : xX G d y r0 lim Φ n ls st M) : xX G d y r0 lim Φ pc ls (a :: st) M := by
  subst hn
  intro p e R s m args below meth c Zf H locs lo hΦ hC hw hS hl hb
  exact lv_pop hC.1 hC.2.1 hd ha (k p e R s m args below meth c Zf H locs lo hΦ hC hw hS hl hb)
theorem xr_goto {off : Int} (hd : decode y.2.1 pc = .ok (.goto off, 3)) (ht : (pc : Int) + off = (n : Int)) (k : xX G d y r0 lim Φ n ls st M) : xX G d y r0 lim Φ pc ls st M := by
  intro p e R s m args below meth c Zf H locs lo hΦ hC hw hS hl hb
  exact lv_goto hC.1 hC.2.1 hd ht (k p e R s m args below meth c Zf H locs lo hΦ hC hw hS hl hb)
theorem xr_icmp_eq {a b : Int32} {off : Int} {tgt : Nat} (hd : decode y.2.1 pc = .ok (.if_icmp .eq off, 3)) (ht : (pc : Int) + off = (tgt : Int)) (hn : pc + 3 = n) (kt : a = b → xX G d y r0 lim Φ tgt ls st M) (kf : ¬ a = b → xX G d y r0 lim Φ n ls st M) : xX G d y r0 lim Φ pc ls (.int b :: .int a :: st) M := by
  subst hn
  intro p e R s m args below meth c Zf H locs lo hΦ hC hw hS hl hb
  exact lv_icmp_eq hC.1 hC.2.1 hd ht (fun h => kt h p e R s m args below meth c Zf H locs lo hΦ hC hw hS hl hb) (fun h => kf h p e R s m args below meth c Zf H locs lo hΦ hC hw hS hl hb)
theorem xr_if_eq {a : Int32} {off : Int} {tgt : Nat} (hd : decode y.2.1 pc = .ok (.ifCond .eq off, 3)) (ht : (pc : Int) + off = (tgt : Int)) (hn : pc + 3 = n) (kt : a = 0 → xX G d y r0 lim Φ tgt ls st M) (kf : ¬ a = 0 → xX G d y r0 lim Φ n ls st M) : xX G d y r0 lim Φ pc ls (.int a :: st) M := by
  subst hn
  intro p e R s m args below meth c Zf H locs lo hΦ hC hw hS hl hb
  exact lv_if_eq hC.1 hC.2.1 hd ht (fun h => kt h p e R s m args below meth c Zf H locs lo hΦ hC hw hS hl hb) (fun h => kf h p e R s m args below meth c Zf H locs lo hΦ hC hw hS hl hb)
theorem xr_icmp_ne {a b : Int32} {off : Int} {tgt : Nat} (hd : decode y.2.1 pc = .ok (.if_icmp .ne off, 3)) (ht : (pc : Int) + off = (tgt : Int)) (hn : pc + 3 = n) (kt : ¬ a = b → xX G d y r0 lim Φ tgt ls st M) (kf : a = b → xX G d y r0 lim Φ n ls st M) : xX G d y r0 lim Φ pc ls (.int b :: .int a :: st) M := by
  subst hn
  intro p e R s m args below meth c Zf H locs lo hΦ hC hw hS hl hb
  exact lv_icmp_ne hC.1 hC.2.1 hd ht (fun h => kt h p e R s m args below meth c Zf H locs lo hΦ hC hw hS hl hb) (fun h => kf h p e R s m args below meth c Zf H locs lo hΦ hC hw hS hl hb)
theorem xr_if_ne {a : Int32} {off : Int} {tgt : Nat} (hd : decode y.2.1 pc = .ok (.ifCond .ne off, 3)) (ht : (pc : Int) + off = (tgt : Int)) (hn : pc + 3 = n) (kt : ¬ a = 0 → xX G d y r0 lim Φ tgt ls st M) (kf : a = 0 → xX G d y r0 lim Φ n ls st M) : xX G d y r0 lim Φ pc ls (.int a :: st) M := by
  subst hn
  intro p e R s m args below meth c Zf H locs lo hΦ hC hw hS hl hb
  exact lv_if_ne hC.1 hC.2.1 hd ht (fun h => kt h p e R s m args below meth c Zf H locs lo hΦ hC hw hS hl hb) (fun h => kf h p e R s m args below meth c Zf H locs lo hΦ hC hw hS hl hb)
theorem xr_icmp_lt {a b : Int32} {off : Int} {tgt : Nat} (hd : decode y.2.1 pc = .ok (.if_icmp .lt off, 3)) (ht : (pc : Int) + off = (tgt : Int)) (hn : pc + 3 = n) (kt : a < b → xX G d y r0 lim Φ tgt ls st M) (kf : ¬ a < b → xX G d y r0 lim Φ n ls st M) : xX G d y r0 lim Φ pc ls (.int b :: .int a :: st) M := by
  subst hn
  intro p e R s m args below meth c Zf H locs lo hΦ hC hw hS hl hb
  exact lv_icmp_lt hC.1 hC.2.1 hd ht (fun h => kt h p e R s m args below meth c Zf H locs lo hΦ hC hw hS hl hb) (fun h => kf h p e R s m args below meth c Zf H locs lo hΦ hC hw hS hl hb)
theorem xr_if_lt {a : Int32} {off : Int} {tgt : Nat} (hd : decode y.2.1 pc = .ok (.ifCond .lt off, 3)) (ht : (pc : Int) + off = (tgt : Int)) (hn : pc + 3 = n) (kt : a < 0 → xX G d y r0 lim Φ tgt ls st M) (kf : ¬ a < 0 → xX G d y r0 lim Φ n ls st M) : xX G d y r0 lim Φ pc ls (.int a :: st) M := by
  subst hn
  intro p e R s m args below meth c Zf H locs lo hΦ hC hw hS hl hb
  exact lv_if_lt hC.1 hC.2.1 hd ht (fun h => kt h p e R s m args below meth c Zf H locs lo hΦ hC hw hS hl hb) (fun h => kf h p e R s m args below meth c Zf H locs lo hΦ hC hw hS hl hb)
theorem xr_icmp_ge {a b : Int32} {off : Int} {tgt : Nat} (hd : decode y.2.1 pc = .ok (.if_icmp .ge off, 3)) (ht : (pc : Int) + off = (tgt : Int)) (hn : pc + 3 = n) (kt : b ≤ a → xX G d y r0 lim Φ tgt ls st M) (kf : ¬ b ≤ a → xX G d y r0 lim Φ n ls st M) : xX G d y r0 lim Φ pc ls (.int b :: .int a :: st) M := by
  subst hn
  intro p e R s m args below meth c Zf H locs lo hΦ hC hw hS hl hb
  exact lv_icmp_ge hC.1 hC.2.1 hd ht (fun h => kt h p e R s m args below meth c Zf H locs lo hΦ hC hw hS hl hb) (fun h => kf h p e R s m args below meth c Zf H locs lo hΦ hC hw hS hl hb)
theorem xr_if_ge {a : Int32} {off : Int} {tgt : Nat} (hd : decode y.2.1 pc = .ok (.ifCond .ge off, 3)) (ht : (pc : Int) + off = (tgt : Int)) (hn : pc + 3 = n) (kt : 0 ≤ a → xX G d y r0 lim Φ tgt ls st M) (kf : ¬ 0 ≤ a → xX G d y r0 lim Φ n ls st M) : xX G d y r0 lim Φ pc ls (.int a :: st) M := by
  subst hn
  intro p e R s m args below meth c Zf H locs lo hΦ hC hw hS hl hb
  exact lv_if_ge hC.1 hC.2.1 hd ht (fun h => kt h p e R s m args below meth c Zf H locs lo hΦ hC hw hS hl hb) (fun h => kf h p e R s m args below meth c Zf H locs lo hΦ hC hw hS hl hb)
theorem xr_icmp_gt {a b : Int32} {off : Int} {tgt : Nat} (hd : decode y.2.1 pc = .ok (.if_icmp .gt off, 3)) (ht : (pc : Int) + off = (tgt : Int)) (hn : pc + 3 = n) (kt : b < a → xX G d y r0 lim Φ tgt ls st M) (kf : ¬ b < a → xX G d y r0 lim Φ n ls st M) : xX G d y r0 lim Φ pc ls (.int b :: .int a :: st) M := by
  subst hn
  intro p e R s m args below meth c Zf H locs lo hΦ hC hw hS hl hb
  exact lv_icmp_gt hC.1 hC.2.1 hd ht (fun h => kt h p e R s m args below meth c Zf H locs lo hΦ hC hw hS hl hb) (fun h => kf h p e R s m args below meth c Zf H locs lo hΦ hC hw hS hl hb)
theorem xr_if_gt {a : Int32} {off : Int} {tgt : Nat} (hd : decode y.2.1 pc = .ok (.ifCond .gt off, 3)) (ht : (pc : Int) + off = (tgt : Int)) (hn : pc + 3 = n) (kt : 0 < a → xX G d y r0 lim Φ tgt ls st M) (kf : ¬ 0 < a → xX G d y r0 lim Φ n ls st M) : xX G d y r0 lim Φ pc ls (.int a :: st) M := by
  subst hn
  intro p e R s m args below meth c Zf H locs lo hΦ hC hw hS hl hb
  exact lv_if_gt hC.1 hC.2.1 hd ht (fun h => kt h p e R s m args below meth c Zf H locs lo hΦ hC hw hS hl hb) (fun h => kf h p e R s m args below meth c Zf H locs lo hΦ hC hw hS hl hb)
theorem xr_icmp_le {a b : Int32} {off : Int} {tgt : Nat} (hd : decode y.2.1 pc = .ok (.if_icmp .le off, 3)) (ht : (pc : Int) + off = (tgt : Int)) (hn : pc + 3 = n) (kt : a ≤ b → xX G d y r0 lim Φ tgt ls st M) (kf : ¬ a ≤ b → xX G d y r0 lim Φ n ls st M) : xX G d y r0 lim Φ pc ls (.int b :: .int a :: st) M := by
  subst hn
  intro p e R s m args below meth c Zf H locs lo hΦ hC hw hS hl hb
  exact lv_icmp_le hC.1 hC.2.1 hd ht (fun h => kt h p e R s m args below meth c Zf H locs lo hΦ hC hw hS hl hb) (fun h => kf h p e R s m args below meth c Zf H locs lo hΦ hC hw hS hl hb)
theorem xr_if_le {a : Int32} {off : Int} {tgt : Nat} (hd : decode y.2.1 pc = .ok (.ifCond .le off, 3)) (ht : (pc : Int) + off = (tgt : Int)) (hn : pc + 3 = n) (kt : a ≤ 0 → xX G d y r0 lim Φ tgt ls st M) (kf : ¬ a ≤ 0 → xX G d y r0 lim Φ n ls st M) : xX G d y r0 lim Φ pc ls (.int a :: st) M := by
  subst hn
  intro p e R s m args below meth c Zf H locs lo hΦ hC hw hS hl hb
  exact lv_if_le hC.1 hC.2.1 hd ht (fun h => kt h p e R s m args below meth c Zf H locs lo hΦ hC hw hS hl hb) (fun h => kf h p e R s m args below meth c Zf H locs lo hΦ hC hw hS hl hb)
theorem xr_tableIn {dflt lo hi : Int} {offs : Array Int} {len : Nat} {x : Int32} {off : Int} (hd : decode y.2.1 pc = .ok (.tableswitch dflt lo hi offs, len)) (h1 : ¬ x.toInt < lo) (h2 : ¬ hi < x.toInt) (ho : offs[(x.toInt - lo).toNat]? = some off) (ht : (pc : Int) + off = (n : Int)) (k : xX G d y r0 lim Φ n ls st M) : xX G d y r0 lim Φ pc ls (.int x :: st) M := by
  intro p e R s m args below meth c Zf H locs lo hΦ hC hw hS hl hb
  exact lv_tableIn hC.1 hC.2.1 hd h1 h2 ho ht (k p e R s m args below meth c Zf H locs lo hΦ hC hw hS hl hb)
theorem xr_tableOut {dflt lo hi : Int} {offs : Array Int} {len : Nat} {x : Int32} (hd : decode y.2.1 pc = .ok (.tableswitch dflt lo hi offs, len)) (h : x.toInt < lo ∨ hi < x.toInt) (ht : (pc : Int) + dflt = (n : Int)) (k : xX G d y r0 lim Φ n ls st M) : xX G d y r0 lim Φ pc ls (.int x :: st) M := by
  intro p e R s m args below meth c Zf H locs lo hΦ hC hw hS hl hb
  exact lv_tableOut hC.1 hC.2.1 hd h ht (k p e R s m args below meth c Zf H locs lo hΦ hC hw hS hl hb)
theorem xr_lookup {dflt : Int} {ps : Array (Int × Int)} {len : Nat} {x : Int32} {off : Int} (hd : decode y.2.1 pc = .ok (.lookupswitch dflt ps, len)) (hp : (ps.toList.zip (ps.toList.drop 1)).all (fun (a, next) => a.1 < next.1) = true) (ho : Op.lookupswitch.offset ps.toList dflt x.toInt = off) (ht : (pc : Int) + off = (n : Int)) (k : xX G d y r0 lim Φ n ls st M) : xX G d y r0 lim Φ pc ls (.int x :: st) M := by
  intro p e R s m args below meth c Zf H locs lo hΦ hC hw hS hl hb
  exact lv_lookup hC.1 hC.2.1 hd hp ho ht (k p e R s m args below meth c Zf H locs lo hΦ hC hw hS hl hb)
end XR
end
section
/-! THE ROWS of the X layer that read and write the memory, calls, and ends -/
def xft (ci k : Nat) : FieldType := match ci with
  | 0 => tyX0 k
  | 1 => tyX1 k
  | 2 => tyX2 k
  | 3 => tyX3 k
  | 4 => tyX4 k
  | 5 => tyX5 k
  | 6 => tyX6 k
  | 7 => tyX7 k
  | _ => tyX8 k
def xCl (ci : Nat) : Prop := ∃ (C : String) (T : u_T) (N : Nat), vwCl[ci]? = some (C, T, N) ∧ (∀ w ∈ u_ws C T N, w ∈ xWs) ∧ (∀ k, k < N → parseFieldDescriptor (T k).2.2.1 = some (xft ci k)) ∧ (∀ a, a < N → ∀ b, b < N → a ≠ b → (T a).2.1 ≠ (T b).2.1) ∧ (∀ k, k < N → (T k).1 = C) ∧ Cond.instantiable C N ∈ xWs ∧ Cond.initialized C ∈ xWs
theorem xCl_0 : xCl 0 := ⟨RX0, TX0, 3, rfl, inxX0, tyX0_ok, nmX0, by decide +kernel, kp_inst_RX0, kp_init_RX0⟩
theorem xCl_1 : xCl 1 := ⟨RX1, TX1, 10, rfl, inxX1, tyX1_ok, nmX1, by decide +kernel, kp_inst_RX1, kp_init_RX1⟩
theorem xCl_2 : xCl 2 := ⟨RX2, TX2, 3, rfl, inxX2, tyX2_ok, nmX2, by decide +kernel, kp_inst_RX2, kp_init_RX2⟩
theorem xCl_3 : xCl 3 := ⟨RX3, TX3, 6, rfl, inxX3, tyX3_ok, nmX3, by decide +kernel, kp_inst_RX3, kp_init_RX3⟩
theorem xCl_4 : xCl 4 := ⟨RX4, TX4, 2, rfl, inxX4, tyX4_ok, nmX4, by decide +kernel, kp_inst_RX4, kp_init_RX4⟩
theorem xCl_5 : xCl 5 := ⟨RX5, TX5, 2, rfl, inxX5, tyX5_ok, nmX5, by decide +kernel, kp_inst_RX5, kp_init_RX5⟩
theorem xCl_6 : xCl 6 := ⟨RX6, TX6, 9, rfl, inxX6, tyX6_ok, nmX6, by decide +kernel, kp_inst_RX6, kp_init_RX6⟩
theorem xCl_7 : xCl 7 := ⟨RX7, TX7, 8, rfl, inxX7, tyX7_ok, nmX7, by decide +kernel, kp_inst_RX7, kp_init_RX7⟩
theorem xCl_8 : xCl 8 := ⟨RX8, TX8, 20, rfl, inxX8, tyX8_ok, nmX8, by decide +kernel, kp_inst_RX8, kp_init_RX8⟩
theorem xCl_all {ci : Nat} (h : ci < 9) : xCl ci := by
  match ci, h with
  | 0, _ => exact xCl_0
  | 1, _ => exact xCl_1
  | 2, _ => exact xCl_2
  | 3, _ => exact xCl_3
  | 4, _ => exact xCl_4
  | 5, _ => exact xCl_5
  | 6, _ => exact xCl_6
  | 7, _ => exact xCl_7
  | 8, _ => exact xCl_8
/-- a field as the class own names it at place idx: field k of class ci -/
def xFld (own : String) (idx ci k : Nat) : Prop := ∃ (C : String) (T : u_T) (N : Nat), vwCl[ci]? = some (C, T, N) ∧ k < N ∧ (Cond.fieldLink own idx C (T k).2.1 (T k).2.2.1 ∈ xWs ∨ ∃ host, Cond.fieldLinkNest own idx C (T k).2.1 (T k).2.2.1 host ∈ xWs)
theorem xw_in {G : xG} {M : xM} {H : Heap} {a ci : Nat} {fs : List Value} (h : xw G M H) (ha : M.1 a = ob ci fs) (hc : ci < 9) : va_at G.2.1 vwCl (a, .inr (ci, fs)) H ∧ G.2.2.2 ≤ a ∧ a < M.2.1 := by
  have hne : M.1 a ≠ xAbs := by
    rw [ha]
    intro e
    have e2 : (ci, fs) = (999, []) := Sum.inr.inj (Sum.inr.inj e)
    have e3 : ci = 999 := congrArg Prod.fst e2
    omega
  obtain ⟨h1, h2, h3⟩ := h.2.2 a hne
  rw [ha] at h3
  exact ⟨h3, h1, h2⟩
theorem xw_inI {G : xG} {M : xM} {H : Heap} {a t n : Nat} {g : Nat → Int32} (h : xw G M H) (ha : M.1 a = aI t n g) : H[a]? = some (vp_cell (G.2.2.1 t) (n, .inl g)) ∧ G.2.2.2 ≤ a ∧ a < M.2.1 := by
  have hne : M.1 a ≠ xAbs := by rw [ha]; intro e; cases e
  obtain ⟨h1, h2, h3⟩ := h.2.2 a hne
  rw [ha] at h3
  exact ⟨h3, h1, h2⟩
theorem xw_inR {G : xG} {M : xM} {H : Heap} {a t n : Nat} {g : Nat → Option Nat} (h : xw G M H) (ha : M.1 a = aR t n g) : H[a]? = some (vp_cell (G.2.2.1 t) (n, .inr (.inr (.inr (.inr g))))) ∧ G.2.2.2 ≤ a ∧ a < M.2.1 := by
  have hne : M.1 a ≠ xAbs := by rw [ha]; intro e; cases e
  obtain ⟨h1, h2, h3⟩ := h.2.2 a hne
  rw [ha] at h3
  exact ⟨h3, h1, h2⟩
theorem xw_put {G : xG} {M : xM} {H H1 : Heap} {a : Nat} {c : xC} (h : xw G M H) (hz : H1.size = H.size) (ho : ∀ q, q ≠ a → H1[q]? = H[q]?) (hr : G.2.2.2 ≤ a ∧ a < M.2.1) (hc : va_at G.2.1 vwCl (a, xtr G.2.2.1 c) H1) : xw G (xu M.1 a c, M.2) H1 := by
  refine ⟨hz.trans h.1, h.2.1, fun q hq => ?_⟩
  by_cases e : q = a
  · subst e
    rw [show (xu M.1 q c, M.2).1 q = c from xu_s ..] at hq ⊢
    exact ⟨hr.1, hr.2, hc⟩
  · rw [show (xu M.1 a c, M.2).1 q = M.1 q from xu_n _ _ e] at hq ⊢
    obtain ⟨h1, h2, h3⟩ := h.2.2 q hq
    exact ⟨h1, h2, h3.kept (ho q e)⟩
theorem xw_new {G : xG} {M : xM} {H H1 : Heap} {c : xC} {nn : Nat} (h : xw G M H) (hz : H1.size = H.size + 1) (ho : ∀ q, q < H.size → H1[q]? = H[q]?) (hc : va_at G.2.1 vwCl (M.2.1, xtr G.2.2.1 c) H1) : xw G (xu M.1 M.2.1 c, (M.2.1 + 1, M.2.2 + nn)) H1 := by
  refine ⟨by show H1.size = M.2.1 + 1; rw [hz, h.1], by show _ ≤ M.2.1 + 1; have := h.2.1; omega, fun q hq => ?_⟩
  by_cases e : q = M.2.1
  · subst e
    rw [show (xu M.1 M.2.1 c, (M.2.1 + 1, M.2.2 + nn)).1 M.2.1 = c from xu_s ..] at hq ⊢
    exact ⟨h.2.1, Nat.lt_succ_self _, hc⟩
  · rw [show (xu M.1 M.2.1 c, (M.2.1 + 1, M.2.2 + nn)).1 q = M.1 q from xu_n _ _ e] at hq ⊢
    obtain ⟨h1, h2, h3⟩ := h.2.2 q hq
    exact ⟨h1, Nat.lt_succ_of_lt h2, h3.kept (ho q (by rw [h.1]; exact h2))⟩
theorem vwCl_lt {ci : Nat} {q : vw_C} (h : vwCl[ci]? = some q) : ci < 9 := (List.getElem?_eq_some_iff.mp h).1
theorem xKn {G : xG} {s : State} (h : xk G s) : va_K G.2.1 vwCl [] s := ⟨h.2.1, fun k q hq => by simp at hq⟩
theorem xP1 {D : va_G} {H : Heap} {q : Nat × va_E} (h : va_at D vwCl q H) : va_P D vwCl [q] H := by
  intro k x hx
  match k, hx with
  | 0, hx => cases hx; exact h
theorem xS_put {A : Nat → Prop} {H0 H H1 : Heap} {locs : List Loc} {a k : Nat} (h : va_S A H0 H locs) (z : H1.size = H.size) (oq : ∀ q : Nat, q ≠ a → H1[q]? = H[q]?) (ha : A a) : va_S A H0 H1 (locs ++ [⟨a, k⟩]) := h.put z oq ha
def xMth (y : xY) (np : Nat) : Prop := Cond.code y.1 y.2.1 y.2.2.1 y.2.2.2 ∈ xWs ∧ Cond.initialized y.1.cls ∈ xWs ∧ ((y.1.cls ≠ "java/lang/invoke/MethodHandle" ∧ y.1.cls ≠ "java/lang/invoke/VarHandle") ∧ (parseMethodDescriptor y.1.desc).map (fun d => d.parameters.length) = some np) ∧ y.2.2.1 ≤ 19
def xLnk (own : String) (idx : Nat) (x : MethodName) : Prop := Cond.methodLink own idx x ∈ xWs ∨ ∃ host, Cond.methodLinkNest own idx x host ∈ xWs
abbrev xps (v : Option Value) (st : List Value) : List Value := match v with
  | some w => w :: st
  | none => st
section XH
variable {G : xG} {d : Nat} {y : xY} {r0 lim : Nat × Nat} {Φ : xF} {ls : List (Nat × Value)} {st : List Value} {M : xM} {pc n : Nat}
theorem xr_get {a ci k idx : Nat} {fs : List Value} {v : Value} (hd : decode y.2.1 pc = .ok (.getfield idx, 3)) (hF : xFld y.1.cls idx ci k) (ha : M.1 a = ob ci fs) (hv : fs[k]? = some v) (hn : pc + 3 = n) (kk : xX G d y r0 lim Φ n ls (v :: st) M) : xX G d y r0 lim Φ pc ls (.ref a :: st) M := by
  subst hn
  intro p e R s m args below meth c Zf H locs lo hΦ hC hw hS hl hb
  obtain ⟨C, T, N, hcl, hk, hlink⟩ := hF
  obtain ⟨C', T', N', hcl', hin, hty, hnm, hown, -, -⟩ := xCl_all (vwCl_lt hcl)
  cases hcl.symm.trans hcl'
  have hxk := hC.2.2.2.2.2.2.2.1
  have hP := xP1 (xw_in hw ha (vwCl_lt hcl)).1
  have k2 := kk p e R s m args below meth c Zf H locs lo hΦ hC hw hS hl hb
  rcases hlink with hlink | ⟨host, hlink⟩
  · exact va_get hC.1 hC.2.1 (xk_ts hxk args) hin hC.2.2.2.2.1 (xKn hxk) hP 0 rfl hcl k hk (xk_ts hxk args _ hlink) (fun x hx => by rw [hown k hk] at hx; exact hx) hv hd k2
  · exact va_getN hC.1 hC.2.1 (xk_ts hxk args) hin hC.2.2.2.2.1 (xKn hxk) hP 0 rfl hcl k hk (xk_ts hxk args _ hlink) (fun x hx => by rw [hown k hk] at hx; exact hx) hv hd k2
theorem xr_put {a ci k idx : Nat} {fs : List Value} {v : Value} (hd : decode y.2.1 pc = .ok (.putfield idx, 3)) (hF : xFld y.1.cls idx ci k) (hfin : ((vwCl[ci]?).map fun q => (q.2.1 k).2.2.2) = some false) (ha : M.1 a = ob ci fs) (hl0 : Nat.blt k fs.length = true) (hnar : narrow (xft ci k) v = v) (hfit : fits (xft ci k) v = true) (hn : pc + 3 = n) (kk : xX G d y r0 lim Φ n ls st (xu M.1 a (ob ci (fs.set k v)), M.2)) : xX G d y r0 lim Φ pc ls (v :: .ref a :: st) M := by
  subst hn
  intro p e R s m args below meth c Zf H locs lo hΦ hC hw hS hl hb
  obtain ⟨C, T, N, hcl, hk, hlink⟩ := hF
  obtain ⟨C', T', N', hcl', hin, hty, hnm, hown, -, -⟩ := xCl_all (vwCl_lt hcl)
  cases hcl.symm.trans hcl'
  rw [hcl] at hfin
  have hfin : (T k).2.2.2 = false := Option.some.inj hfin
  have hxk := hC.2.2.2.2.2.2.2.1
  obtain ⟨hat, hr⟩ := xw_in hw ha (vwCl_lt hcl)
  have hts := xk_ts hxk args
  have hK : va_K G.2.1 vwCl [] s := xKn hxk
  have hap := va_apart (own := C) hts hin (xft ci) hty hnm hK hcl
  obtain ⟨r, h1, cell, q1, q2, q3, q4⟩ := hat
  cases h1.symm.trans hcl
  obtain ⟨hSl, hfc, kC, hkC, hkind⟩ := hK.1 ci _ hcl
  obtain ⟨cf, kf, fi, f, hi, hsl⟩ := hSl k hk
  have hlay := hts _ (hin _ (u_in_lay hk))
  unfold u_lay at hlay
  rw [if_neg (by rw [hfin]; decide)] at hlay
  have hst := (u_facts hfc hkC (u_lays hts hin hk) hi).1
  have h6 := u_store hfc hkC hkind hlay hi (hty k hk) hnar hfit
  have hi2 := hi
  rw [hown k hk] at hi2
  have kk2 : ∀ H' : Heap, H'[a]? = some (cell.setSlot f.slot v) → H'.size = H.size → (∀ q, q ≠ a → H'[q]? = H[q]?) → W p G.1 e R s m args below meth c H' (locs ++ [⟨a, f.slot⟩]) (M.2.1 - r0.1) (M.2.2 - r0.2) Zf (F0 m (pc + 3) lo st) := fun H' e1 e2 e3 =>
    kk p e R s m args below meth c Zf H' _ lo hΦ hC (xw_put hw e2 e3 hr ⟨_, hcl, t_OB.to (V := updV (vp_V fs) k v) ⟨_, e1, q2, q3, by rw [hsl]; exact t_set q4 hap hk v⟩ (fun j _ => vp_updV_set (Nat.le_of_ble_eq_true hl0) v j)⟩) (hS.put e2 e3 hr.1) hl hb
  rcases hlink with hlink | ⟨host, hlink⟩
  · exact W.putK hC.1 hC.2.1 (f := f) ⟨hC.2.2.2.2.1, hts _ hlink, ⟨_, _, _, hi2⟩, hst⟩ (by rw [q2]; exact h6) q1 q3 (by rw [hsl]; exact k2_hasslot (q4 k hk)) rfl rfl hd kk2
  · exact va_WputK hC.1 hC.2.1 (f := f) hC.2.2.2.2.1 (hts _ hlink) hi2 hst (by rw [q2]; exact h6) q1 q3 (by rw [hsl]; exact k2_hasslot (q4 k hk)) rfl rfl hd kk2
/-- a final field, in a constructor of its class -/
theorem xr_putF {a ci k idx : Nat} {fs : List Value} {v : Value} (hd : decode y.2.1 pc = .ok (.putfield idx, 3)) (hF : xFld y.1.cls idx ci k) (hfin : ((vwCl[ci]?).map fun q => (q.2.1 k).2.2.2) = some true) (hini : y.1.name = "<init>") (hown0 : ((vwCl[ci]?).map fun q => q.1) = some y.1.cls) (ha : M.1 a = ob ci fs) (hl0 : Nat.blt k fs.length = true) (hnar : narrow (xft ci k) v = v) (hfit : fits (xft ci k) v = true) (hn : pc + 3 = n) (kk : xX G d y r0 lim Φ n ls st (xu M.1 a (ob ci (fs.set k v)), M.2)) : xX G d y r0 lim Φ pc ls (v :: .ref a :: st) M := by
  subst hn
  intro p e R s m args below meth c Zf H locs lo hΦ hC hw hS hl hb
  obtain ⟨C, T, N, hcl, hk, hlink⟩ := hF
  obtain ⟨C', T', N', hcl', hin, hty, hnm, hown, -, -⟩ := xCl_all (vwCl_lt hcl)
  cases hcl.symm.trans hcl'
  rw [hcl] at hfin hown0
  have hfin : (T k).2.2.2 = true := Option.some.inj hfin
  have hown0 : C = y.1.cls := Option.some.inj hown0
  have hxk := hC.2.2.2.2.2.2.2.1
  obtain ⟨hat, hr⟩ := xw_in hw ha (vwCl_lt hcl)
  have hts := xk_ts hxk args
  have hK : va_K G.2.1 vwCl [] s := xKn hxk
  have hap := va_apart (own := C) hts hin (xft ci) hty hnm hK hcl
  obtain ⟨r, h1, cell, q1, q2, q3, q4⟩ := hat
  cases h1.symm.trans hcl
  obtain ⟨hSl, hfc, kC, hkC, hkind⟩ := hK.1 ci _ hcl
  obtain ⟨cf, kf, fi, f, hi, hsl⟩ := hSl k hk
  have hlay := hts _ (hin _ (u_in_lay hk))
  unfold u_lay at hlay
  rw [if_pos hfin] at hlay
  have hst := (u_facts hfc hkC (u_lays hts hin hk) hi).1
  have hownC : s.vm.findClass C = some m.cls := by rw [hown0]; exact hC.2.2.2.2.1
  have hcf : m.cls = cf := by
    obtain ⟨_, _, c', _, _, _, -, -, hf', -, -, -, hown2, -⟩ := Cond.laysFinal_spec hlay
    have e1 : c' = cf := by have := hi.symm.trans hf'; simp at this; exact this.1.symm
    rw [hown k hk] at hown2
    rw [← e1]; exact Option.some.inj (hownC.symm.trans hown2)
  have h6 := u_fits hfc hkC hkind (Or.inr hlay) hi (hty k hk) hnar hfit
  have hi2 := hi
  rw [hown k hk] at hi2
  have hin2 : meth.name = "<init>" := hC.2.2.2.2.2.1.trans hini
  have kk2 : ∀ H' : Heap, H'[a]? = some (cell.setSlot f.slot v) → H'.size = H.size → (∀ q, q ≠ a → H'[q]? = H[q]?) → W p G.1 e R s m args below meth c H' (locs ++ [⟨a, f.slot⟩]) (M.2.1 - r0.1) (M.2.2 - r0.2) Zf (F0 m (pc + 3) lo st) := fun H' e1 e2 e3 =>
    kk p e R s m args below meth c Zf H' _ lo hΦ hC (xw_put hw e2 e3 hr ⟨_, hcl, t_OB.to (V := updV (vp_V fs) k v) ⟨_, e1, q2, q3, by rw [hsl]; exact t_set q4 hap hk v⟩ (fun j _ => vp_updV_set (Nat.le_of_ble_eq_true hl0) v j)⟩) (hS.put e2 e3 hr.1) hl hb
  rcases hlink with hlink | ⟨host, hlink⟩
  · exact W.putFinK hC.1 hC.2.1 hC.2.2.2.2.1 (hts _ hlink) hi2 hst hcf hin2 (by rw [q2]; exact h6) q1 q3 (by rw [hsl]; exact k2_hasslot (q4 k hk)) rfl rfl hd kk2
  · have hlink2 := hts _ hlink
    exact va_Wputf hC.1 hC.2.1 hC.2.2.2.2.1 hlink2 hi2 hst (Or.inr ⟨hcf, hin2⟩) q1 (by rw [q3]; exact fun h => by cases h) (by rw [hsl]; exact k2_hasslot (q4 k hk)) h6.1 (by rw [q2, q3]; exact h6.2) rfl rfl hd (kk2 _ (by simp [Array.getElem?_setIfInBounds, (Array.getElem?_eq_some_iff.mp q1).1]) (by simp) (fun q hq => by simp [Array.getElem?_setIfInBounds, Ne.symm hq]))
theorem xr_iaload {a nn : Nat} {g : Nat → Int32} {i : Int32} (hd : decode y.2.1 pc = .ok (.iaload, 1)) (ha : M.1 a = aI 0 nn g) (hin : vp_in i nn) (hn : pc + 1 = n) (kk : xX G d y r0 lim Φ n ls (.int (g i.toNatClampNeg) :: st) M) : xX G d y r0 lim Φ pc ls (.int i :: .ref a :: st) M := by
  subst hn
  intro p e R s m args below meth c Zf H locs lo hΦ hC hw hS hl hb
  have hxk := hC.2.2.2.2.2.2.2.1
  obtain ⟨hat, hr⟩ := xw_inI hw ha
  have hlt : i.toNatClampNeg < nn := Nat.not_le.mp fun q => hin (Or.inr q)
  exact W.iald (v := .int (g i.toNatClampNeg)) hC.1 hC.2.1 hat ((hxk.2.2.1 0 (by omega)).1 nn (fun j => .int (g j))) (fun q => by cases q) (by show ¬ (i < 0 ∨ (arrV _ _ _).slots.size ≤ _); rw [arrV_size]; exact hin) (by show (arrV _ _ _).slots[_]? = _; rw [arrV_read _ _ hlt]) rfl rfl hd (kk p e R s m args below meth c Zf H locs lo hΦ hC hw hS hl hb)
theorem xr_caload {a nn : Nat} {g : Nat → Int32} {i : Int32} (hd : decode y.2.1 pc = .ok (.caload, 1)) (ha : M.1 a = aI 1 nn g) (hin : vp_in i nn) (hn : pc + 1 = n) (kk : xX G d y r0 lim Φ n ls (.int (g i.toNatClampNeg) :: st) M) : xX G d y r0 lim Φ pc ls (.int i :: .ref a :: st) M := by
  subst hn
  intro p e R s m args below meth c Zf H locs lo hΦ hC hw hS hl hb
  have hxk := hC.2.2.2.2.2.2.2.1
  obtain ⟨hat, hr⟩ := xw_inI hw ha
  have hlt : i.toNatClampNeg < nn := Nat.not_le.mp fun q => hin (Or.inr q)
  exact W.cald (v := .int (g i.toNatClampNeg)) hC.1 hC.2.1 hat ((hxk.2.2.1 1 (by omega)).1 nn (fun j => .int (g j))) (fun q => by cases q) (by show ¬ (i < 0 ∨ (arrV _ _ _).slots.size ≤ _); rw [arrV_size]; exact hin) (by show (arrV _ _ _).slots[_]? = _; rw [arrV_read _ _ hlt]) rfl rfl hd (kk p e R s m args below meth c Zf H locs lo hΦ hC hw hS hl hb)
theorem xr_aaload {a t nn : Nat} {g : Nat → Option Nat} {i : Int32} (hd : decode y.2.1 pc = .ok (.aaload, 1)) (ha : M.1 a = aR t nn g) (ht : t = 2 ∨ t = 3) (hin : vp_in i nn) (hn : pc + 1 = n) (kk : xX G d y r0 lim Φ n ls (va_rf (g i.toNatClampNeg) :: st) M) : xX G d y r0 lim Φ pc ls (.int i :: .ref a :: st) M := by
  subst hn
  intro p e R s m args below meth c Zf H locs lo hΦ hC hw hS hl hb
  have hxk := hC.2.2.2.2.2.2.2.1
  obtain ⟨hat, hr⟩ := xw_inR hw ha
  have hlt : i.toNatClampNeg < nn := Nat.not_le.mp fun q => hin (Or.inr q)
  exact W.aald (v := va_rf (g i.toNatClampNeg)) (ty := xTy t) hC.1 hC.2.1 hat ((hxk.2.2.1 t (by omega)).1 nn (fun j => va_rf (g j))) (by rcases ht with rfl | rfl <;> rfl) (fun q => by cases q) (by show ¬ (i < 0 ∨ (arrV _ _ _).slots.size ≤ _); rw [arrV_size]; exact hin) (by show (arrV _ _ _).slots[_]? = _; rw [arrV_read _ _ hlt]) rfl rfl hd (kk p e R s m args below meth c Zf H locs lo hΦ hC hw hS hl hb)
theorem xr_iastore {a nn : Nat} {g : Nat → Int32} {i x : Int32} (hd : decode y.2.1 pc = .ok (.iastore, 1)) (ha : M.1 a = aI 0 nn g) (hin : vp_in i nn) (hn : pc + 1 = n) (kk : xX G d y r0 lim Φ n ls st (xu M.1 a (aI 0 nn (upd g i.toNatClampNeg x)), M.2)) : xX G d y r0 lim Φ pc ls (.int x :: .int i :: .ref a :: st) M := by
  subst hn
  intro p e R s m args below meth c Zf H locs lo hΦ hC hw hS hl hb
  have hxk := hC.2.2.2.2.2.2.2.1
  obtain ⟨hat, hr⟩ := xw_inI hw ha
  refine W.iast hC.1 hC.2.1 hat ((hxk.2.2.1 0 (by omega)).1 nn (fun j => .int (g j))) (fun q => by cases q) (by show ¬ (i < 0 ∨ (arrV _ _ _).slots.size ≤ _); rw [arrV_size]; exact hin) rfl rfl hd fun H1 e1 z oq => ?_
  refine kk p e R s m args below meth c Zf H1 _ lo hΦ hC (xw_put hw z oq hr ?_) (hS.put z oq hr.1) hl hb
  show H1[a]? = some (vp_cell _ _)
  rw [e1]
  rw [vp_cell_i, vp_cell_i, arrV_store]
  congr 2
  funext q
  by_cases hq : q = i.toNatClampNeg
  · subst hq
    simp [updV, upd]
  · simp [updV, upd, hq]
theorem xr_castore {a nn : Nat} {g : Nat → Int32} {i x : Int32} (hd : decode y.2.1 pc = .ok (.castore, 1)) (ha : M.1 a = aI 1 nn g) (hin : vp_in i nn) (hx : vp_nar .char x = x) (hn : pc + 1 = n) (kk : xX G d y r0 lim Φ n ls st (xu M.1 a (aI 1 nn (upd g i.toNatClampNeg x)), M.2)) : xX G d y r0 lim Φ pc ls (.int x :: .int i :: .ref a :: st) M := by
  subst hn
  intro p e R s m args below meth c Zf H locs lo hΦ hC hw hS hl hb
  have hxk := hC.2.2.2.2.2.2.2.1
  obtain ⟨hat, hr⟩ := xw_inI hw ha
  refine W.cast hC.1 hC.2.1 hat ((hxk.2.2.1 1 (by omega)).1 nn (fun j => .int (g j))) (fun q => by cases q) (by show ¬ (i < 0 ∨ (arrV _ _ _).slots.size ≤ _); rw [arrV_size]; exact hin) rfl rfl hd fun H1 e1 z oq => ?_
  refine kk p e R s m args below meth c Zf H1 _ lo hΦ hC (xw_put hw z oq hr ?_) (hS.put z oq hr.1) hl hb
  show H1[a]? = some (vp_cell _ _)
  rw [e1]
  have hx2 : narrow .char (.int x) = .int x := by
    rw [show narrow .char (.int x) = .int (vp_nar .char x) from rfl, hx]
  rw [hx2, vp_cell_i, vp_cell_i, arrV_store]
  congr 2
  funext q
  by_cases hq : q = i.toNatClampNeg
  · subst hq
    simp [updV, upd]
  · simp [updV, upd, hq]
theorem xr_aastore {a t nn v ci : Nat} {vs : List Value} {g : Nat → Option Nat} {i : Int32} (hd : decode y.2.1 pc = .ok (.aastore, 1)) (ha : M.1 a = aR t nn g) (hv : M.1 v = ob ci vs) (ht : (t = 2 ∧ ci = 1) ∨ (t = 3 ∧ ci = 2)) (hin : vp_in i nn) (hn : pc + 1 = n) (kk : xX G d y r0 lim Φ n ls st (xu M.1 a (aR t nn (va_up g i.toNatClampNeg (some v))), M.2)) : xX G d y r0 lim Φ pc ls (.ref v :: .int i :: .ref a :: st) M := by
  subst hn
  intro p e R s m args below meth c Zf H locs lo hΦ hC hw hS hl hb
  have hxk := hC.2.2.2.2.2.2.2.1
  obtain ⟨hat, hr⟩ := xw_inR hw ha
  have hlt : i.toNatClampNeg < nn := Nat.not_le.mp fun q => hin (Or.inr q)
  have h0 : ¬ i < 0 := fun q => hin (Or.inl q)
  obtain ⟨⟨r', hr', cellV, g1, g2, g3, -⟩, -⟩ := xw_in hw hv (by omega)
  have hcls := (hxk.2.1 ci r' hr').2
  have hra := (hxk.2.2.1 t (by omega)).2
  have hx : ∃ (kA : Class) (comp : ClassId) (tt : FieldType), s.vm.classes[G.2.2.1 t]? = some kA ∧ kA.kind = .array comp tt ∧ tt.isReference = true ∧ s.vm.findClass r'.1 = some comp := by
    rcases ht with ⟨rfl, rfl⟩ | ⟨rfl, rfl⟩ <;> (cases hr'; obtain ⟨kA, comp, k1, k2, k3, -⟩ := hra; exact ⟨kA, comp, _, k1, k2, rfl, k3⟩)
  obtain ⟨kA, comp, tt, k1, k2, k4, k3⟩ := hx
  have hcomp : comp = G.2.1.1 ci := Option.some.inj (k3.symm.trans hcls.1)
  subst hcomp
  obtain ⟨kC, hkC, -⟩ := hcls.2
  refine W.aast hC.1 hC.2.1 hat (fun q h => by cases h) (fun h => by cases h) k1 k2 k4 hkC ⟨h0, by show _ < (arrV _ _ _).slots.size; rw [arrV_size]; exact hlt⟩ g1 (fun q h => by rw [g3] at h; cases h) (by rw [g2]; exact hkC) (by rw [g2]; exact va_assign hcls) rfl rfl hd fun H1 e1 z oq => ?_
  refine kk p e R s m args below meth c Zf H1 _ lo hΦ hC (xw_put hw z oq hr ?_) (hS.put z oq hr.1) hl hb
  show H1[a]? = some (vp_cell _ _)
  rw [e1]
  rw [vp_cell_q, vp_cell_q, arrV_store]
  congr 2
  funext q
  by_cases hq : q = i.toNatClampNeg
  · subst hq
    simp [updV, va_up, va_rf]
  · simp [updV, va_up, hq]
theorem xr_mmin {x z : Int32} {idx : Nat} (hd : decode y.2.1 pc = .ok (.invokestatic idx, 3)) (hL : Cond.methodLink y.1.cls idx Lib.Math.min.name ∈ xWs) (hst : (st.map fun v => v.category).sum ≤ 8) (hn : pc + 3 = n) (kk : xX G (d + 1) y r0 lim Φ n ls (.int (if z < x then z else x) :: st) M) : xX G (d + 1) y r0 lim Φ pc ls (.int z :: .int x :: st) M := by
  subst hn
  intro p e R s m args below meth c Zf H locs lo hΦ hC hw hS hl hb
  have hts := xk_ts hC.2.2.2.2.2.2.2.1 args
  obtain ⟨hR1, hR2, hR3, hR4⟩ := hC.2.2.2.2.2.2.2.2.2.2
  exact va_mmin hC.1 hC.2.1 (hC.2.2.2.1.trans hl.1.1.symm) hC.2.2.2.2.1 (hts _ hL) (hts _ kp_static_Lib_Math_min_name) (hts _ kp_init_java_lang_Math) (hts _ kp_code_Lib_Math_min_name) (by omega) (by omega) (by omega) (by omega) hd (kk p e R s m args below meth c Zf H locs lo hΦ hC hw hS hl hb)
theorem xr_mmax {x z : Int32} {idx : Nat} (hd : decode y.2.1 pc = .ok (.invokestatic idx, 3)) (hL : Cond.methodLink y.1.cls idx Lib.Math.max.name ∈ xWs) (hst : (st.map fun v => v.category).sum ≤ 8) (hn : pc + 3 = n) (kk : xX G (d + 1) y r0 lim Φ n ls (.int (if x < z then z else x) :: st) M) : xX G (d + 1) y r0 lim Φ pc ls (.int z :: .int x :: st) M := by
  subst hn
  intro p e R s m args below meth c Zf H locs lo hΦ hC hw hS hl hb
  have hts := xk_ts hC.2.2.2.2.2.2.2.1 args
  obtain ⟨hR1, hR2, hR3, hR4⟩ := hC.2.2.2.2.2.2.2.2.2.2
  exact va_mmax hC.1 hC.2.1 (hC.2.2.2.1.trans hl.1.1.symm) hC.2.2.2.2.1 (hts _ hL) (hts _ kp_static_Lib_Math_max_name) (hts _ kp_init_java_lang_Math) (hts _ kp_code_Lib_Math_max_name) (by omega) (by omega) (by omega) (by omega) hd (kk p e R s m args below meth c Zf H locs lo hΦ hC hw hS hl hb)
theorem xr_mabs {x : Int32} {idx : Nat} (hd : decode y.2.1 pc = .ok (.invokestatic idx, 3)) (hL : Cond.methodLink y.1.cls idx Lib.Math.abs.name ∈ xWs) (hst : (st.map fun v => v.category).sum ≤ 8) (hn : pc + 3 = n) (kk : xX G (d + 1) y r0 lim Φ n ls (.int (if 0 ≤ x then x else 0 - x) :: st) M) : xX G (d + 1) y r0 lim Φ pc ls (.int x :: st) M := by
  subst hn
  intro p e R s m args below meth c Zf H locs lo hΦ hC hw hS hl hb
  have hts := xk_ts hC.2.2.2.2.2.2.2.1 args
  obtain ⟨hR1, hR2, hR3, hR4⟩ := hC.2.2.2.2.2.2.2.2.2.2
  exact va_mabs hC.1 hC.2.1 (hC.2.2.2.1.trans hl.1.1.symm) hC.2.2.2.2.1 (hts _ hL) (hts _ kp_static_Lib_Math_abs_name) (hts _ kp_init_java_lang_Math) (hts _ kp_code_Lib_Math_abs_name) (by omega) (by omega) (by omega) (by omega) hd (kk p e R s m args below meth c Zf H locs lo hΦ hC hw hS hl hb)
theorem xr_objInit {a idx : Nat} (hd : decode y.2.1 pc = .ok (.invokespecial idx, 3)) (hL : Cond.methodLink y.1.cls idx objectInit ∈ xWs) (hst : (st.map fun v => v.category).sum ≤ 8) (hn : pc + 3 = n) (kk : xX G (d + 1) y r0 lim Φ n ls st M) : xX G (d + 1) y r0 lim Φ pc ls (.ref a :: st) M := by
  subst hn
  intro p e R s m args below meth c Zf H locs lo hΦ hC hw hS hl hb
  have hts := xk_ts hC.2.2.2.2.2.2.2.1 args
  obtain ⟨hR1, hR2, hR3, hR4⟩ := hC.2.2.2.2.2.2.2.2.2.2
  exact W.objInit hC.1 hC.2.1 hC.2.2.2.2.1 (hts _ hL) (hts _ kp_instanceMethod_objectInit) (hts _ kp_code_objectInit) rfl (by rw [hC.2.2.2.1]; exact hl.1.1) rfl hd (by omega) (by show 2 * 0 + _ + 12 ≤ _; omega) (kk p e R s m args below meth c Zf H locs lo hΦ hC hw hS hl hb)
theorem xr_new {idx ci : Nat} {C : String} {N : Nat} {fs : List Value} (hd : decode y.2.1 pc = .ok (.new idx, 3)) (hL : Cond.classLink y.1.cls idx C ∈ xWs) (hci : ((vwCl[ci]?).map fun q => (q.1, q.2.2)) = some (C, N)) (hfs : ∀ j, j < N → defaultValue (xft ci j) = vp_V fs j) (hlim : M.2.1 + 1 ≤ lim.1 ∧ M.2.2 + N ≤ lim.2) (hn : pc + 3 = n) (kk : xX G d y r0 lim Φ n ls (.ref M.2.1 :: st) (xu M.1 M.2.1 (ob ci fs), (M.2.1 + 1, M.2.2 + N))) : xX G d y r0 lim Φ pc ls st M := by
  subst hn
  intro p e R s m args below meth c Zf H locs lo hΦ hC hw hS hl hb
  obtain ⟨⟨C1, T, N1⟩, hcl, hcn⟩ := Option.map_eq_some_iff.mp hci
  have e1 : C = C1 := (congrArg Prod.fst hcn).symm
  have e2 : N = N1 := (congrArg Prod.snd hcn).symm
  subst e1
  subst e2
  obtain ⟨C', T', N', hcl', hin, hty, hnm, hown, hins, hini⟩ := xCl_all (vwCl_lt hcl)
  cases hcl.symm.trans hcl'
  have hxk := hC.2.2.2.2.2.2.2.1
  have hts := xk_ts hxk args
  obtain ⟨hR1, hR2, hR3, hR4⟩ := hC.2.2.2.2.2.2.2.2.2.2
  have hKn := hxk.2.1 ci _ hcl
  refine W.newcK hC.1 hC.2.1 hC.2.2.2.2.1 (hts _ hL) (hts _ hins) (hts _ hini) rfl hd (by omega) (by omega) hKn.2.1 hw.1 fun H1 kC hkC e1 z1 o1 => ?_
  refine W.cs (cells' := M.2.1 + 1 - r0.1) (slots' := M.2.2 + N - r0.2) (by omega) (by omega) ?_
  exact kk p e R s m args below meth c Zf H1 locs lo hΦ hC (xw_new hw (by rw [z1, hw.1]) (by rw [hw.1]; exact o1) ⟨_, hcl, (u_born (xft ci) hts hin hKn hkC e1 hty).to hfs⟩) ⟨Nat.le_trans hS.1 (by rw [z1, hw.1]; omega), fun q h1 h2 => (o1 q (by rw [← hw.1]; exact Nat.lt_of_lt_of_le h1 hS.1)).trans (hS.2.1 q h1 h2), hS.2.2⟩ hl ⟨by show _ ≤ M.2.1 + 1; omega, by show _ ≤ M.2.2 + N; omega, hlim.1, hlim.2⟩
theorem arrOfT_eq {s : State} {c1 c2 : ClassId} {ty : FieldType} (h1 : s.vm.findClass ("[" ++ ty.toString) = some c1) (h2 : s.vm.findClass ("[" ++ ty.toString) = some c2) : c1 = c2 := Option.some.inj (h1.symm.trans h2)
theorem xr_newarray {z : Int32} {N t : Nat} {at0 : ArrayType} (hd : decode y.2.1 pc = .ok (.newarray at0, 2)) (ht : (at0 = .int ∧ t = 0) ∨ (at0 = .char ∧ t = 1)) (hz : ¬ z < 0) (hN : z.toNatClampNeg = N) (hbig : N ≤ 100000) (hlim : M.2.1 + 1 ≤ lim.1 ∧ M.2.2 + N ≤ lim.2) (hn : pc + 2 = n) (kk : xX G d y r0 lim Φ n ls (.ref M.2.1 :: st) (xu M.1 M.2.1 (aI t N (fun _ => 0)), (M.2.1 + 1, M.2.2 + N))) : xX G d y r0 lim Φ pc ls (.int z :: st) M := by
  subst hn
  intro p e R s m args below meth c Zf H locs lo hΦ hC hw hS hl hb
  have hxk := hC.2.2.2.2.2.2.2.1
  have hts := xk_ts hxk args
  obtain ⟨hR1, hR2, hR3, hR4⟩ := hC.2.2.2.2.2.2.2.2.2.2
  have h4 := hxk.2.2.2.1
  have key : ∀ (ty : FieldType), newarray.typeOf at0 = ty → ty = xTy t → (Cond.arrayClass ty).before args s = true → componentBytes ty ≤ 4 → defaultValue ty = .int 0 → va_RA s (G.2.2.1 t) ty → (∀ c, va_RA s c ty → s.vm.findClass ("[" ++ ty.toString) = some c) → W p G.1 e R s m args below meth c H locs (M.2.1 - r0.1) (M.2.2 - r0.2) Zf (F0 m pc lo (.int z :: st)) := by
    intro ty hty hty2 hac hcb hdv hra hraf
    subst hty
    refine va_newaK hC.1 hC.2.1 hac rfl hd rfl hz hN (Nat.le_trans (Nat.mul_le_mul hbig hcb) (by decide)) (by omega) (by omega) hw.1 fun H1 cA e1 z1 o1 hAr hNm => ?_
    have hcA : cA = G.2.2.1 t := Option.some.inj (hNm.symm.trans (hraf _ hra))
    subst hcA
    refine W.cs (cells' := M.2.1 + 1 - r0.1) (slots' := M.2.2 + N - r0.2) (by omega) (by omega) ?_
    refine kk p e R s m args below meth c Zf H1 locs lo hΦ hC (xw_new hw (by rw [z1, hw.1]) (by rw [hw.1]; exact o1) ?_) ⟨Nat.le_trans hS.1 (by rw [z1, hw.1]; omega), fun q h1 h2 => (o1 q (by rw [← hw.1]; exact Nat.lt_of_lt_of_le h1 hS.1)).trans (hS.2.1 q h1 h2), hS.2.2⟩ hl ⟨by show _ ≤ M.2.1 + 1; omega, by show _ ≤ M.2.2 + N; omega, hlim.1, hlim.2⟩
    show H1[M.2.1]? = some (vp_cell _ _)
    rw [e1, hdv]
    rfl
  rcases ht with ⟨rfl, rfl⟩ | ⟨rfl, rfl⟩
  · exact key .int rfl rfl (h4.1 args) (by decide) rfl (hxk.2.2.1 0 (by omega)).2 (fun c h => h)
  · exact key .char rfl rfl (h4.2 args) (by decide) rfl (hxk.2.2.1 1 (by omega)).2 (fun c h => h)
theorem xr_anewarray {z : Int32} {N t idx : Nat} {C : String} (hd : decode y.2.1 pc = .ok (.anewarray idx, 3)) (hL : Cond.classLink y.1.cls idx C ∈ xWs) (ht : (C = RX1 ∧ t = 2) ∨ (C = RX2 ∧ t = 3)) (hz : ¬ z < 0) (hN : z.toNatClampNeg = N) (hbig : N ≤ 100000) (hlim : M.2.1 + 1 ≤ lim.1 ∧ M.2.2 + N ≤ lim.2) (hn : pc + 3 = n) (kk : xX G d y r0 lim Φ n ls (.ref M.2.1 :: st) (xu M.1 M.2.1 (aR t N (fun _ => none)), (M.2.1 + 1, M.2.2 + N))) : xX G d y r0 lim Φ pc ls (.int z :: st) M := by
  subst hn
  subst hN
  intro p e R s m args below meth c Zf H locs lo hΦ hC hw hS hl hb
  have hxk := hC.2.2.2.2.2.2.2.1
  have hts := xk_ts hxk args
  obtain ⟨hR1, hR2, hR3, hR4⟩ := hC.2.2.2.2.2.2.2.2.2.2
  have hover : va_AO C s := by
    rcases ht with ⟨rfl, -⟩ | ⟨rfl, -⟩
    · exact hxk.2.2.2.2.1
    · exact hxk.2.2.2.2.2
  have hraf : s.vm.findClass ("[" ++ (FieldType.object C).toString) = some (G.2.2.1 t) := by
    rcases ht with ⟨rfl, rfl⟩ | ⟨rfl, rfl⟩
    · obtain ⟨_, _, -, -, -, h⟩ := (hxk.2.2.1 2 (by omega)).2; exact h
    · obtain ⟨_, _, -, -, -, h⟩ := (hxk.2.2.1 3 (by omega)).2; exact h
  refine W.anew hC.1 hC.2.1 hC.2.2.2.2.1 (hts _ hL) (va_AO.use hover) rfl hd rfl hz (by omega) (by omega) (by omega) fun cA kA comp f1 f2 f3 f4 => ?_
  have hcA : cA = G.2.2.1 t := Option.some.inj (f1.symm.trans hraf)
  subst hcA
  generalize hH1 : H.push ({ cls := G.2.2.1 t, slots := Array.replicate z.toNatClampNeg .null, vm := .none } : Cell) = H1
  have z1 : H1.size = H.size + 1 := by rw [← hH1, Array.size_push]
  have e1 : H1[H.size]? = some (arrV (G.2.2.1 t) z.toNatClampNeg (fun _ => .null)) := by rw [← hH1, Array.getElem?_push_size, ← arrV_new]
  have o1 : ∀ q : Nat, q < H.size → H1[q]? = H[q]? := fun q hq => by rw [← hH1, Array.getElem?_push, if_neg (Nat.ne_of_lt hq)]
  have hsz := hw.1
  rw [show (Value.ref H.size) = Value.ref M.2.1 by rw [hsz]]
  refine W.cs (cells' := M.2.1 + 1 - r0.1) (slots' := M.2.2 + z.toNatClampNeg - r0.2) (by omega) (by omega) ?_
  refine kk p e R s m args below meth c Zf H1 locs lo hΦ hC (xw_new hw z1 o1 ?_) ⟨Nat.le_trans hS.1 (by omega), fun q h1 h2 => (o1 q (Nat.lt_of_lt_of_le h1 hS.1)).trans (hS.2.1 q h1 h2), hS.2.2⟩ hl ⟨by show _ ≤ M.2.1 + 1; omega, by show _ ≤ M.2.2 + _; omega, hlim.1, hlim.2⟩
  show H1[M.2.1]? = some (vp_cell _ _)
  rw [← hsz, e1]
  rfl
end XH
end
section
/-! calls and ends of the X layer -/
theorem xPc_blind {G : xG} {M : xM} {av : List Value} : FrameBlind (va_Pc av (fun U => xw G M U.heap ∧ xk G U)) := fun a U g mk q => ⟨q.1, q.2.1, xk_same (s := U) rfl q.2.2⟩
section XC
variable {G : xG} {d : Nat} {y : xY} {r0 lim : Nat × Nat} {Φ : xF} {ls : List (Nat × Value)} {st : List Value} {M : xM} {pc n : Nat}
/-- what a call goes on with -/
def xK (G : xG) (d : Nat) (y : xY) (r0 lim : Nat × Nat) (Φ : xF) (n : Nat) (ls : List (Nat × Value)) (st : List Value) : Option Value → xM → Prop := fun v M' => xX G d y r0 lim Φ n ls (xps v st) M'
theorem xr_run {p : Program} {e : Env} {R : Room} {s : State} {m : MethodId} {args : Array Value} {below : List Frame} {meth : Method} {c : Code} {Zf : State → Prop} {H : Heap} {locs : List Loc} {lo : Array Slot} {st0 : List Value} {lim2 : Nat × Nat} {a : Array Value}
    (hΦ : Φ p e R s m args below meth c Zf) (hC : xCx G d y r0 lim p R s m meth c) (hw : xw G M H) (hS : va_S (fun q => G.2.2.2 ≤ q) s.heap H locs) (hl : xl lo y.2.2.1 ls) (hb : r0.1 ≤ M.2.1 ∧ r0.2 ≤ M.2.2 ∧ M.2.1 ≤ lim.1 ∧ M.2.2 ≤ lim.2)
    (h1 : M.2.1 ≤ lim2.1 ∧ M.2.2 ≤ lim2.2) (h2 : lim2.1 ≤ lim.1 ∧ lim2.2 ≤ lim.2) (hn : pc + 3 = n)
    (hr : va_Run p G.1 e R s m args below meth c H locs (M.2.1 - r0.1) (M.2.2 - r0.2) (lim2.1 - M.2.1) (lim2.2 - M.2.2) (F0 m pc lo st0) st (xPost G lim2 (xK G d y r0 lim Φ n ls st) a) (fun q => G.2.2.2 ≤ q)) :
    W p G.1 e R s m args below meth c H locs (M.2.1 - r0.1) (M.2.2 - r0.2) Zf (F0 m pc lo st0) := by
  subst hn
  intro T hT X
  obtain ⟨v, st₀, t, T', L, g0, X', hL, e1, e2, ⟨⟨v', M', hv, hQ, hM2, hw2⟩, hz, hk⟩, stp⟩ := hr T hT X
  cases hv
  rw [g0] at hz hk
  have hS2 : va_S (fun q => G.2.2.2 ≤ q) s.heap T'.heap (locs ++ L) := ⟨Nat.le_trans hS.1 (by rw [e1]; exact hz), fun q q1 q2 => by
      rw [e1, hk q (Nat.lt_of_lt_of_le q1 hS.1) q2]; exact hS.2.1 q q1 q2, fun q hq => by
      rcases List.mem_append.mp hq with h | h
      · exact hS.2.2 q h
      · exact hL q h⟩
  have hW := hQ p e R s m args below meth c Zf T'.heap (locs ++ L) lo hΦ hC (by rw [e1]; exact hw2) hS2 hl ⟨by rw [hM2]; omega, by rw [hM2]; omega, by rw [hM2]; exact h2.1, by rw [hM2]; exact h2.2⟩
  have q1 : M.2.1 - r0.1 + (lim2.1 - M.2.1) = M'.2.1 - r0.1 := by rw [hM2]; omega
  have q2 : M.2.2 - r0.2 + (lim2.2 - M.2.2) = M'.2.2 - r0.2 := by rw [hM2]; omega
  rw [q1, q2] at X'
  obtain ⟨t2, a1, b1⟩ := hW T' rfl X'
  refine ⟨t2, stp t2 ?_, b1⟩
  have hst : xps v st = v.toList ++ st := by cases v <;> rfl
  rw [hst] at a1
  exact a1
theorem xr_cb {own : String} {idx np : Nat} {y2 : xY} {lim2 : Nat × Nat} {R : Room} {s : State} {args : Array Value} (hk : xk G s) (hM : xMth y2 np) (hL : Cond.methodLink own idx y2.1 ∈ xWs) (hR1 : d + 1 ≤ R.frames) (hR2 : 38 * (d + 1) ≤ R.locals) :
    CallB R s args own idx y2.1 y2.2.1 y2.2.2.1 y2.2.2.2 [Cond.code y2.1 y2.2.1 y2.2.2.1 y2.2.2.2] { frames := d, cells := lim2.1 - M.2.1, slots := lim2.2 - M.2.2, locals := 38 * d } (lim2.1 - M.2.1) (lim2.2 - M.2.2) np := by
  have hts := xk_ts hk args
  obtain ⟨h1, h2, h3, h4⟩ := hM
  refine ⟨rfl, rfl, hR1, by show 8 + (y2.2.2.1 + 11) + 38 * d ≤ _; omega, fun w hw a' U hW => ?_, List.mem_singleton.mpr rfl, hts _ h1, hts _ h2, h3.1, fun sig h => ?_, hts _ hL⟩
  · rw [List.mem_singleton.mp hw]
    exact word_at hW (good_of_word rfl) (hts _ h1)
  · have h5 := h3.2
    rw [h] at h5
    exact (Option.some.inj h5).symm
theorem xr_cn {own host : String} {idx np : Nat} {y2 : xY} {lim2 : Nat × Nat} {R : Room} {s : State} {args : Array Value} (hk : xk G s) (hM : xMth y2 np) (hL : Cond.methodLinkNest own idx y2.1 host ∈ xWs) (hR1 : d + 1 ≤ R.frames) (hR2 : 38 * (d + 1) ≤ R.locals) :
    va_CN R s args own idx y2.1 host y2.2.1 y2.2.2.1 y2.2.2.2 [Cond.code y2.1 y2.2.1 y2.2.2.1 y2.2.2.2] { frames := d, cells := lim2.1 - M.2.1, slots := lim2.2 - M.2.2, locals := 38 * d } (lim2.1 - M.2.1) (lim2.2 - M.2.2) np := by
  have hts := xk_ts hk args
  obtain ⟨h1, h2, h3, h4⟩ := hM
  refine ⟨⟨rfl, rfl, hR1, by show 8 + (y2.2.2.1 + 11) + 38 * d ≤ _; omega, fun w hw a' U hW => ?_, List.mem_singleton.mpr rfl⟩, hts _ h1, hts _ h2, h3.1, fun sig h => ?_, hts _ hL⟩
  · rw [List.mem_singleton.mp hw]
    exact word_at hW (good_of_word rfl) (hts _ h1)
  · have h5 := h3.2
    rw [h] at h5
    exact (Option.some.inj h5).symm
theorem xr_callV {b ci np idx : Nat} {fs As stk : List Value} {y2 : xY} {lim2 : Nat × Nat} (hd : decode y.2.1 pc = .ok (.invokevirtual idx, 3)) (hL : xLnk y.1.cls idx y2.1) (hM : xMth y2 np) (hI : Cond.instanceMethod y2.1 ∈ xWs ∧ Cond.selects y2.1.cls y2.1 y2.1 ∈ xWs) (ha : M.1 b = ob ci fs) (hc : ((vwCl[ci]?).map fun q => q.1) = some y2.1.cls) (hnp : As.length = np) (hstk : stk = As.reverse ++ .ref b :: st) (hst : (st.map fun v => v.category).sum ≤ 8) (hn : pc + 3 = n) (h2 : lim2.1 ≤ lim.1 ∧ lim2.2 ≤ lim.2)
    (k : xMet G d y2 (.ref b :: As) M lim2 (xK G (d + 1) y r0 lim Φ n ls st)) : xX G (d + 1) y r0 lim Φ pc ls stk M := by
  subst hstk
  intro p e R s m args below meth c Zf H locs lo hΦ hC hw hS hl hb
  have hxk := hC.2.2.2.2.2.2.2.1
  have hts := xk_ts hxk args
  obtain ⟨hR1, hR2, hR3, hR4⟩ := hC.2.2.2.2.2.2.2.2.2.2
  obtain ⟨q, hcl, hq⟩ := Option.map_eq_some_iff.mp hc
  obtain ⟨⟨r', hr', cellB, g1, g2, g3, -⟩, -⟩ := xw_in hw ha (vwCl_lt hcl)
  cases hr'.symm.trans hcl
  have hfc := (hxk.2.1 ci _ hcl).2.1
  have hPV : PreV s H y2.1.cls b (va_Pc (.ref b :: As) (fun U => xw G M U.heap ∧ xk G U)) As := ⟨xPc_blind, ⟨cellB, g1, by rw [g3]; rfl, by rw [g2, ← hq]; exact hfc⟩, fun U hU hW => ⟨rfl, by rw [hU]; exact hw, xk_moved hW hxk⟩⟩
  have hroom : 2 * (F0 m pc lo (As.reverse ++ .ref b :: st)).monitorRoom + (st.map fun v => v.category).sum ≤ 8 := lv_room hst
  refine xr_run (st := st) hΦ hC hw hS hl hb k.1 h2 hn (a := (Value.ref b :: As).toArray) ?_
  rcases hL with hL | ⟨host, hL⟩
  · exact va_runV (Ts := xWs) ⟨hC.1, hC.2.1, hC.2.2.2.1, hC.2.2.2.2.1, hts⟩ k.2 ⟨xr_cb hxk hM hL hR1 hR2, hts _ hI.1, hts _ hI.2⟩ hPV rfl hnp hl.1.1 rfl hroom hd ⟨by omega, by omega⟩
  · exact va_runVN (Ts := xWs) ⟨hC.1, hC.2.1, hC.2.2.2.1, hC.2.2.2.2.1, hts⟩ k.2 ⟨xr_cn hxk hM hL hR1 hR2, hts _ hI.1, hts _ hI.2⟩ hPV rfl hnp hl.1.1 rfl hroom hd ⟨by omega, by omega⟩
theorem xr_callS {np idx : Nat} {As stk : List Value} {y2 : xY} {lim2 : Nat × Nat} (hd : decode y.2.1 pc = .ok (.invokestatic idx, 3)) (hL : xLnk y.1.cls idx y2.1) (hM : xMth y2 np) (hI : Cond.static y2.1 ∈ xWs) (hnp : As.length = np) (hstk : stk = As.reverse ++ st) (hst : (st.map fun v => v.category).sum ≤ 8) (hn : pc + 3 = n) (h2 : lim2.1 ≤ lim.1 ∧ lim2.2 ≤ lim.2)
    (k : xMet G d y2 As M lim2 (xK G (d + 1) y r0 lim Φ n ls st)) : xX G (d + 1) y r0 lim Φ pc ls stk M := by
  subst hstk
  intro p e R s m args below meth c Zf H locs lo hΦ hC hw hS hl hb
  have hxk := hC.2.2.2.2.2.2.2.1
  have hts := xk_ts hxk args
  obtain ⟨hR1, hR2, hR3, hR4⟩ := hC.2.2.2.2.2.2.2.2.2.2
  have hPV : PreS s H (va_Pc As (fun U => xw G M U.heap ∧ xk G U)) As := ⟨xPc_blind, fun U hU hW => ⟨rfl, by rw [hU]; exact hw, xk_moved hW hxk⟩⟩
  have hroom : 2 * (F0 m pc lo (As.reverse ++ st)).monitorRoom + (st.map fun v => v.category).sum ≤ 8 := lv_room hst
  refine xr_run (st := st) hΦ hC hw hS hl hb k.1 h2 hn (a := As.toArray) ?_
  rcases hL with hL | ⟨host, hL⟩
  · exact va_runS (Ts := xWs) ⟨hC.1, hC.2.1, hC.2.2.2.1, hC.2.2.2.2.1, hts⟩ k.2 ⟨xr_cb hxk hM hL hR1 hR2, hts _ hI⟩ hPV rfl hnp hl.1.1 rfl hroom hd ⟨by omega, by omega⟩
  · exact va_runSN (Ts := xWs) ⟨hC.1, hC.2.1, hC.2.2.2.1, hC.2.2.2.2.1, hts⟩ k.2 ⟨xr_cn hxk hM hL hR1 hR2, hts _ hI, trivial⟩ hPV rfl hnp hl.1.1 rfl hroom hd ⟨by omega, by omega⟩
theorem xr_callI {b np idx : Nat} {As stk : List Value} {y2 : xY} {lim2 : Nat × Nat} (hd : decode y.2.1 pc = .ok (.invokespecial idx, 3)) (hL : xLnk y.1.cls idx y2.1) (hM : xMth y2 np) (hret : y2.2.2.2 = none) (hini : y2.1.name = "<init>") (hI : Cond.instanceMethod y2.1 ∈ xWs) (hnp : As.length = np) (hstk : stk = As.reverse ++ .ref b :: st) (hst : (st.map fun v => v.category).sum ≤ 8) (hn : pc + 3 = n) (h2 : lim2.1 ≤ lim.1 ∧ lim2.2 ≤ lim.2)
    (k : xMet G d y2 (.ref b :: As) M lim2 (xK G (d + 1) y r0 lim Φ n ls st)) : xX G (d + 1) y r0 lim Φ pc ls stk M := by
  subst hstk
  intro p e R s m args below meth c Zf H locs lo hΦ hC hw hS hl hb
  have hxk := hC.2.2.2.2.2.2.2.1
  have hts := xk_ts hxk args
  obtain ⟨hR1, hR2, hR3, hR4⟩ := hC.2.2.2.2.2.2.2.2.2.2
  have hPV : PreS s H (va_Pc (.ref b :: As) (fun U => xw G M U.heap ∧ xk G U)) (.ref b :: As) := ⟨xPc_blind, fun U hU hW => ⟨rfl, by rw [hU]; exact hw, xk_moved hW hxk⟩⟩
  have hroom : 2 * (F0 m pc lo (As.reverse ++ .ref b :: st)).monitorRoom + (st.map fun v => v.category).sum ≤ 8 := lv_room hst
  refine xr_run (st := st) hΦ hC hw hS hl hb k.1 h2 hn (a := (Value.ref b :: As).toArray) ?_
  obtain ⟨yn, yb, yl, yr⟩ := y2
  cases hret
  rcases hL with hL | ⟨host, hL⟩
  · exact va_runI (Ts := xWs) ⟨hC.1, hC.2.1, hC.2.2.2.1, hC.2.2.2.2.1, hts⟩ k.2 ⟨xr_cb hxk hM hL hR1 hR2, hini, hts _ hI⟩ hPV rfl hnp hl.1.1 rfl hroom hd ⟨by omega, by omega⟩
  · exact va_runIN (Ts := xWs) ⟨hC.1, hC.2.1, hC.2.2.2.1, hC.2.2.2.2.1, hts⟩ k.2 ⟨xr_cn hxk hM hL hR1 hR2, hini, hts _ hI⟩ hPV rfl hnp hl.1.1 rfl hroom hd ⟨by omega, by omega⟩
theorem xr_ireturn {v : Int32} {Q : Option Value → xM → Prop} {ty : FieldType} (hd : decode y.2.1 pc = .ok (.ireturn, 1)) (hr : y.2.2.2 = some ty) (hnar : narrow ty (.int v) = .int v) (hlim : M.2 = lim) (hq : Q (some (.int v)) M) : xX G d y r0 lim (xΦ G r0 lim Q) pc ls [.int v] M := by
  intro p e R s m args below meth c Zf H locs lo hΦ hC hw hS hl hb
  cases hΦ
  rw [hlim]
  exact W.zret hC.1 hC.2.1 (hC.2.2.1.trans hr) hnar (fun t ht hW => ⟨⟨_, M, rfl, hq, hlim, by rw [ht]; exact hw⟩, hS.F ht⟩) hS.2.2 hd hC.2.2.2.2.2.2.1
theorem xr_areturn {a : Nat} {Q : Option Value → xM → Prop} {nm : String} (hd : decode y.2.1 pc = .ok (.areturn, 1)) (hr : y.2.2.2 = some (.object nm)) (hlim : M.2 = lim) (hq : Q (some (.ref a)) M) : xX G d y r0 lim (xΦ G r0 lim Q) pc ls [.ref a] M := by
  intro p e R s m args below meth c Zf H locs lo hΦ hC hw hS hl hb
  cases hΦ
  rw [hlim]
  exact W.aret hC.1 hC.2.1 (hC.2.2.1.trans hr) (Or.inl ⟨_, rfl⟩) (Or.inr ⟨_, rfl⟩) (fun t ht hW => ⟨⟨_, M, rfl, hq, hlim, by rw [ht]; exact hw⟩, hS.F ht⟩) hS.2.2 hd hC.2.2.2.2.2.2.1
theorem xr_return {Q : Option Value → xM → Prop} (hd : decode y.2.1 pc = .ok (.return_, 1)) (hr : y.2.2.2 = none) (hlim : M.2 = lim) (hq : Q none M) : xX G d y r0 lim (xΦ G r0 lim Q) pc ls [] M := by
  intro p e R s m args below meth c Zf H locs lo hΦ hC hw hS hl hb
  cases hΦ
  rw [hlim]
  exact W.vret hC.1 hC.2.1 (hC.2.2.1.trans hr) (fun t ht hW => ⟨⟨_, M, rfl, hq, hlim, by rw [ht]; exact hw⟩, hS.F ht⟩) hS.2.2 hd hC.2.2.2.2.2.2.1
/-- System.arraycopy of ints -/
theorem xr_copy {a a0 n0 n1 idx : Nat} {f g : Nat → Int32} {sp dp nn : Int32} (hd : decode y.2.1 pc = .ok (.invokestatic idx, 3)) (hL : Cond.methodLink y.1.cls idx arraycopyName ∈ xWs) (ha0 : M.1 a0 = aI 0 n0 f) (ha1 : M.1 a = aI 0 n1 g) (h1 : ¬ sp < 0) (h2 : ¬ dp < 0) (h3 : ¬ nn < 0) (h4 : sp.toNatClampNeg + nn.toNatClampNeg ≤ n0) (h5 : dp.toNatClampNeg + nn.toNatClampNeg ≤ n1) (hst : (st.map fun v => v.category).sum ≤ 8) (hn : pc + 3 = n)
    (kk : xX G (d + 1) y r0 lim Φ n ls st (xu M.1 a (aI 0 n1 (va_cpy f g sp.toNatClampNeg dp.toNatClampNeg nn.toNatClampNeg)), M.2)) : xX G (d + 1) y r0 lim Φ pc ls (.int nn :: .int dp :: .ref a :: .int sp :: .ref a0 :: st) M := by
  subst hn
  intro p e R s m args below meth c Zf H locs lo hΦ hC hw hS hl hb
  have hxk := hC.2.2.2.2.2.2.2.1
  have hts := xk_ts hxk args
  obtain ⟨hR1, hR2, hR3, hR4⟩ := hC.2.2.2.2.2.2.2.2.2.2
  obtain ⟨hc0, hr0⟩ := xw_inI hw ha0
  obtain ⟨hc1, hr1⟩ := xw_inI hw ha1
  have hfr : nativeFrameWords "java/lang/System" "arraycopy" 5 + 11 ≤ 30 := by decide +kernel
  have nneg : ∀ z : Int32, ¬ z < 0 → z.toInt = (z.toNatClampNeg : Int) := by
    intro z hz
    have hz0 : (0 : Int) ≤ z.toInt := by
      have := Int32.not_lt.mp hz
      simpa using Int32.le_iff_toInt_le.mp this
    show z.toInt = ((z.toInt.toNat : Nat) : Int)
    omega
  intro T hT X
  have hA := (hxk.2.2.1 0 (by omega)).1
  obtain ⟨-, k0, hk0, cm0, hkk0⟩ := hA n0 (fun j => .int (f j))
  obtain ⟨-, k1, hk1, cm1, hkk1⟩ := hA n1 (fun j => .int (g j))
  obtain ⟨vm', X', step⟩ := X.arraycopy hC.1 hC.2.2.2.2.1 (hts _ hL) (hts _ kp_native_arraycopyName) (hts _ kp_static_arraycopyName) (hts _ kp_init_java_lang_System) (src := a0) (dst := a) (cs := vp_cell (G.2.2.1 0) (n0, .inl f)) (cd := vp_cell (G.2.2.1 0) (n1, .inl g)) (srcPos := sp) (destPos := dp) (n := nn) (by rw [hT]; exact hc0) (by rw [hT]; exact hc1)
    (fun _ h => by cases h) (fun _ h => by cases h) (fun h => by cases h) (fun h => by cases h) hk0 hk1 hkk0 hkk1 (by simp [show refKind (xTy 0) = false from rfl]) h1 h2 h3
    (by rw [nneg sp h1, nneg nn h3]; show ¬ _ > ((arrV (G.2.2.1 0) n0 (fun j => .int (f j))).slots.size : Int); rw [arrV_size]; omega)
    (by rw [nneg dp h2, nneg nn h3]; show ¬ _ > ((arrV (G.2.2.1 0) n1 (fun j => .int (g j))).slots.size : Int); rw [arrV_size]; omega)
    (fun vm₁ _ i hi => by
      have e : (vp_cell (G.2.2.1 0) (n0, .inl f)).slots.getD (sp.toNatClampNeg + i) .null = .int (f (sp.toNatClampNeg + i)) := by
        show (arrV (G.2.2.1 0) n0 (fun j => .int (f j))).slots.getD _ _ = _
        rw [Array.getD_eq_getD_getElem?, arrV_read _ _ (by omega)]
        rfl
      refine ⟨?_, ?_⟩
      · rw [e]
        rfl
      · rw [e]
        exact trivial)
    (g := F0 m pc lo (.int nn :: .int dp :: .ref a :: .int sp :: .ref a0 :: st)) rfl (by rw [hC.2.2.2.1]; exact hl.1.1) (rest := st) rfl (by rw [hC.2.1]; exact hd) (by omega) (by show 2 * 0 + _ + _ ≤ _; omega)
  have e1 : copied (vp_cell (G.2.2.1 0) (n0, .inl f)) (vp_cell (G.2.2.1 0) (n1, .inl g)) sp dp nn = vp_cell (G.2.2.1 0) (n1, .inl (va_cpy f g sp.toNatClampNeg dp.toNatClampNeg nn.toNatClampNeg)) := va_copied (fun z => .int z) _ _ f g h4
  rw [e1] at X' step
  have hlt : a < H.size := (Array.getElem?_eq_some_iff.mp hc1).1
  have hheap : ((T.setVm vm').setCell a (vp_cell (G.2.2.1 0) (n1, .inl (va_cpy f g sp.toNatClampNeg dp.toNatClampNeg nn.toNatClampNeg)))).heap = H.setIfInBounds a (vp_cell (G.2.2.1 0) (n1, .inl (va_cpy f g sp.toNatClampNeg dp.toNatClampNeg nn.toNatClampNeg))) := by rw [← hT]; rfl
  have oq : ∀ q : Nat, q ≠ a → (H.setIfInBounds a (vp_cell (G.2.2.1 0) (n1, .inl (va_cpy f g sp.toNatClampNeg dp.toNatClampNeg nn.toNatClampNeg))))[q]? = H[q]? := fun q hq => by simp [Array.getElem?_setIfInBounds, Ne.symm hq]
  have hw2 := xw_put (c := aI 0 n1 (va_cpy f g sp.toNatClampNeg dp.toNatClampNeg nn.toNatClampNeg)) (H1 := H.setIfInBounds a (vp_cell (G.2.2.1 0) (n1, .inl (va_cpy f g sp.toNatClampNeg dp.toNatClampNeg nn.toNatClampNeg)))) hw (by simp) oq hr1 (show (H.setIfInBounds a _)[a]? = some _ by simp [Array.getElem?_setIfInBounds, hlt])
  obtain ⟨t, a1, b1⟩ := kk p e R s m args below meth c Zf _ _ lo hΦ hC hw2 ⟨by simp; exact hS.1, fun q g1 g2 => by
      rw [oq q (fun e => g2 (by rw [e]; exact hr1.1))]
      exact hS.2.1 q g1 g2, fun q hq => by
      rcases List.mem_append.mp hq with h | h
      · exact hS.2.2 q h
      · obtain ⟨z, -, hz⟩ := List.mem_map.mp h
        rw [← hz]
        exact hr1.1⟩ hl hb _ hheap X'
  exact ⟨t, step t a1, b1⟩
end XC
end
