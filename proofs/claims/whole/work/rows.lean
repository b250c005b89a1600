section
-- ===== PART A: goes FIRST, ahead of the names: the tables' words, and 'selects' of the private methods out of them =====
/-- a private method of a class that the tables say can be made, by its rows of tables_1 -/
def lw_okq (q : MethodName × Nat) : Prop := (q.1.cls ≠ "java/lang/invoke/MethodHandle" ∧ q.1.cls ≠ "java/lang/invoke/VarHandle") ∧ Cond.instantiable q.1.cls q.2 ∈ tables_1 ∧ Cond.privateMethod q.1 ∈ tables_1 ∧ Cond.instanceMethod q.1 ∈ tables_1
theorem lw_p0 : lw_okq (⟨"PairedSteps$Reader", "nextSign", "()I"⟩, 6) := ⟨⟨by decide +kernel, by decide +kernel⟩, List.mem_of_getElem? (i := 76) (by decide +kernel), List.mem_of_getElem? (i := 256) (by decide +kernel), List.mem_of_getElem? (i := 257) (by decide +kernel)⟩
theorem lw_p1 : lw_okq (⟨"PairedSteps$Reader", "awaitedSign", "()I"⟩, 6) := ⟨⟨by decide +kernel, by decide +kernel⟩, List.mem_of_getElem? (i := 76) (by decide +kernel), List.mem_of_getElem? (i := 267) (by decide +kernel), List.mem_of_getElem? (i := 268) (by decide +kernel)⟩
theorem lw_p2 : lw_okq (⟨"PairedSteps$Reader", "readStatement", "(I)Z"⟩, 6) := ⟨⟨by decide +kernel, by decide +kernel⟩, List.mem_of_getElem? (i := 76) (by decide +kernel), List.mem_of_getElem? (i := 272) (by decide +kernel), List.mem_of_getElem? (i := 273) (by decide +kernel)⟩
theorem lw_p3 : lw_okq (⟨"PairedSteps$Reader", "readTell", "()Z"⟩, 6) := ⟨⟨by decide +kernel, by decide +kernel⟩, List.mem_of_getElem? (i := 76) (by decide +kernel), List.mem_of_getElem? (i := 280) (by decide +kernel), List.mem_of_getElem? (i := 281) (by decide +kernel)⟩
theorem lw_p4 : lw_okq (⟨"PairedSteps$Reader", "takeCell", "()I"⟩, 6) := ⟨⟨by decide +kernel, by decide +kernel⟩, List.mem_of_getElem? (i := 76) (by decide +kernel), List.mem_of_getElem? (i := 284) (by decide +kernel), List.mem_of_getElem? (i := 285) (by decide +kernel)⟩
theorem lw_p5 : lw_okq (⟨"PairedSteps$Reader", "take", "(I)Z"⟩, 6) := ⟨⟨by decide +kernel, by decide +kernel⟩, List.mem_of_getElem? (i := 76) (by decide +kernel), List.mem_of_getElem? (i := 291) (by decide +kernel), List.mem_of_getElem? (i := 292) (by decide +kernel)⟩
theorem lw_p6 : lw_okq (⟨"PairedSteps$Reader", "innermost", "()I"⟩, 6) := ⟨⟨by decide +kernel, by decide +kernel⟩, List.mem_of_getElem? (i := 76) (by decide +kernel), List.mem_of_getElem? (i := 295) (by decide +kernel), List.mem_of_getElem? (i := 296) (by decide +kernel)⟩
theorem lw_p7 : lw_okq (⟨"PairedSteps$Reader", "readOpening", "(II)Z"⟩, 6) := ⟨⟨by decide +kernel, by decide +kernel⟩, List.mem_of_getElem? (i := 76) (by decide +kernel), List.mem_of_getElem? (i := 304) (by decide +kernel), List.mem_of_getElem? (i := 305) (by decide +kernel)⟩
theorem lw_p8 : lw_okq (⟨"PairedSteps$Reader", "readSetting", "()Z"⟩, 6) := ⟨⟨by decide +kernel, by decide +kernel⟩, List.mem_of_getElem? (i := 76) (by decide +kernel), List.mem_of_getElem? (i := 308) (by decide +kernel), List.mem_of_getElem? (i := 309) (by decide +kernel)⟩
theorem lw_p9 : lw_okq (⟨"PairedSteps$Reader", "takeTerm", "()I"⟩, 6) := ⟨⟨by decide +kernel, by decide +kernel⟩, List.mem_of_getElem? (i := 76) (by decide +kernel), List.mem_of_getElem? (i := 312) (by decide +kernel), List.mem_of_getElem? (i := 313) (by decide +kernel)⟩
theorem lw_p10 : lw_okq (⟨"PairedSteps$Reader", "takeNumber", "()I"⟩, 6) := ⟨⟨by decide +kernel, by decide +kernel⟩, List.mem_of_getElem? (i := 76) (by decide +kernel), List.mem_of_getElem? (i := 319) (by decide +kernel), List.mem_of_getElem? (i := 320) (by decide +kernel)⟩
theorem lw_p11 : lw_okq (⟨"PairedSteps$Reader", "takeOperator", "()I"⟩, 6) := ⟨⟨by decide +kernel, by decide +kernel⟩, List.mem_of_getElem? (i := 76) (by decide +kernel), List.mem_of_getElem? (i := 323) (by decide +kernel), List.mem_of_getElem? (i := 324) (by decide +kernel)⟩
theorem lw_p12 : lw_okq (⟨"PairedSteps$Listing", "followerOf", "(I)I"⟩, 10) := ⟨⟨by decide +kernel, by decide +kernel⟩, List.mem_of_getElem? (i := 36) (by decide +kernel), List.mem_of_getElem? (i := 340) (by decide +kernel), List.mem_of_getElem? (i := 341) (by decide +kernel)⟩
theorem lw_p13 : lw_okq (⟨"PairedSteps$Listing", "item", "([II)I"⟩, 10) := ⟨⟨by decide +kernel, by decide +kernel⟩, List.mem_of_getElem? (i := 36) (by decide +kernel), List.mem_of_getElem? (i := 344) (by decide +kernel), List.mem_of_getElem? (i := 345) (by decide +kernel)⟩
theorem lw_p14 : lw_okq (⟨"PairedSteps$Reader", "goOn", "(I)V"⟩, 6) := ⟨⟨by decide +kernel, by decide +kernel⟩, List.mem_of_getElem? (i := 76) (by decide +kernel), List.mem_of_getElem? (i := 348) (by decide +kernel), List.mem_of_getElem? (i := 349) (by decide +kernel)⟩
theorem lw_p15 : lw_okq (⟨"PairedSteps$History", "dropOldest", "()V"⟩, 3) := ⟨⟨by decide +kernel, by decide +kernel⟩, List.mem_of_getElem? (i := 102) (by decide +kernel), List.mem_of_getElem? (i := 364) (by decide +kernel), List.mem_of_getElem? (i := 365) (by decide +kernel)⟩
def lw_privs_1 : List (MethodName × Nat) := [(⟨"PairedSteps$Reader", "nextSign", "()I"⟩, 6), (⟨"PairedSteps$Reader", "awaitedSign", "()I"⟩, 6), (⟨"PairedSteps$Reader", "readStatement", "(I)Z"⟩, 6), (⟨"PairedSteps$Reader", "readTell", "()Z"⟩, 6), (⟨"PairedSteps$Reader", "takeCell", "()I"⟩, 6), (⟨"PairedSteps$Reader", "take", "(I)Z"⟩, 6), (⟨"PairedSteps$Reader", "innermost", "()I"⟩, 6), (⟨"PairedSteps$Reader", "readOpening", "(II)Z"⟩, 6), (⟨"PairedSteps$Reader", "readSetting", "()Z"⟩, 6), (⟨"PairedSteps$Reader", "takeTerm", "()I"⟩, 6), (⟨"PairedSteps$Reader", "takeNumber", "()I"⟩, 6), (⟨"PairedSteps$Reader", "takeOperator", "()I"⟩, 6), (⟨"PairedSteps$Listing", "followerOf", "(I)I"⟩, 10), (⟨"PairedSteps$Listing", "item", "([II)I"⟩, 10), (⟨"PairedSteps$Reader", "goOn", "(I)V"⟩, 6), (⟨"PairedSteps$History", "dropOldest", "()V"⟩, 3)]
theorem lw_r1 : ∀ q ∈ lw_privs_1, lw_okq q := List.forall_mem_cons.mpr ⟨lw_p0, List.forall_mem_cons.mpr ⟨lw_p1, List.forall_mem_cons.mpr ⟨lw_p2, List.forall_mem_cons.mpr ⟨lw_p3, List.forall_mem_cons.mpr ⟨lw_p4, List.forall_mem_cons.mpr ⟨lw_p5, List.forall_mem_cons.mpr ⟨lw_p6, List.forall_mem_cons.mpr ⟨lw_p7, List.forall_mem_cons.mpr ⟨lw_p8, List.forall_mem_cons.mpr ⟨lw_p9, List.forall_mem_cons.mpr ⟨lw_p10, List.forall_mem_cons.mpr ⟨lw_p11, List.forall_mem_cons.mpr ⟨lw_p12, List.forall_mem_cons.mpr ⟨lw_p13, List.forall_mem_cons.mpr ⟨lw_p14, List.forall_mem_cons.mpr ⟨lw_p15, fun _ h => absurd h List.not_mem_nil⟩⟩⟩⟩⟩⟩⟩⟩⟩⟩⟩⟩⟩⟩⟩⟩
theorem lw_p16 : lw_okq (⟨"PairedSteps", "listingOf", "(I)LPairedSteps$Listing;"⟩, 8) := ⟨⟨by decide +kernel, by decide +kernel⟩, List.mem_of_getElem? (i := 13) (by decide +kernel), List.mem_of_getElem? (i := 376) (by decide +kernel), List.mem_of_getElem? (i := 377) (by decide +kernel)⟩
theorem lw_p17 : lw_okq (⟨"PairedSteps$Listing", "moveDown", "(II)V"⟩, 10) := ⟨⟨by decide +kernel, by decide +kernel⟩, List.mem_of_getElem? (i := 36) (by decide +kernel), List.mem_of_getElem? (i := 398) (by decide +kernel), List.mem_of_getElem? (i := 399) (by decide +kernel)⟩
theorem lw_p18 : lw_okq (⟨"PairedSteps$Listing", "depthOf", "(I)I"⟩, 10) := ⟨⟨by decide +kernel, by decide +kernel⟩, List.mem_of_getElem? (i := 36) (by decide +kernel), List.mem_of_getElem? (i := 430) (by decide +kernel), List.mem_of_getElem? (i := 431) (by decide +kernel)⟩
theorem lw_p19 : lw_okq (⟨"PairedSteps", "traceOf", "(III)LPairedSteps$Trace;"⟩, 8) := ⟨⟨by decide +kernel, by decide +kernel⟩, List.mem_of_getElem? (i := 13) (by decide +kernel), List.mem_of_getElem? (i := 448) (by decide +kernel), List.mem_of_getElem? (i := 449) (by decide +kernel)⟩
theorem lw_p20 : lw_okq (⟨"PairedSteps$Trace", "begin", "(II)V"⟩, 9) := ⟨⟨by decide +kernel, by decide +kernel⟩, List.mem_of_getElem? (i := 128) (by decide +kernel), List.mem_of_getElem? (i := 456) (by decide +kernel), List.mem_of_getElem? (i := 457) (by decide +kernel)⟩
theorem lw_p21 : lw_okq (⟨"PairedSteps$Trace", "stepFrom", "(LPairedSteps$Listing;I)I"⟩, 9) := ⟨⟨by decide +kernel, by decide +kernel⟩, List.mem_of_getElem? (i := 128) (by decide +kernel), List.mem_of_getElem? (i := 465) (by decide +kernel), List.mem_of_getElem? (i := 466) (by decide +kernel)⟩
theorem lw_p22 : lw_okq (⟨"PairedSteps$Trace", "resultOf", "(LPairedSteps$Listing;I)I"⟩, 9) := ⟨⟨by decide +kernel, by decide +kernel⟩, List.mem_of_getElem? (i := 128) (by decide +kernel), List.mem_of_getElem? (i := 477) (by decide +kernel), List.mem_of_getElem? (i := 478) (by decide +kernel)⟩
theorem lw_p23 : lw_okq (⟨"PairedSteps$Trace", "termValue", "(I)I"⟩, 9) := ⟨⟨by decide +kernel, by decide +kernel⟩, List.mem_of_getElem? (i := 128) (by decide +kernel), List.mem_of_getElem? (i := 485) (by decide +kernel), List.mem_of_getElem? (i := 486) (by decide +kernel)⟩
theorem lw_p24 : lw_okq (⟨"PairedSteps$Trace", "setCell", "(II)V"⟩, 9) := ⟨⟨by decide +kernel, by decide +kernel⟩, List.mem_of_getElem? (i := 128) (by decide +kernel), List.mem_of_getElem? (i := 507) (by decide +kernel), List.mem_of_getElem? (i := 508) (by decide +kernel)⟩
theorem lw_p25 : lw_okq (⟨"PairedSteps$Trace", "keepMark", "()V"⟩, 9) := ⟨⟨by decide +kernel, by decide +kernel⟩, List.mem_of_getElem? (i := 128) (by decide +kernel), List.mem_of_getElem? (i := 520) (by decide +kernel), List.mem_of_getElem? (i := 521) (by decide +kernel)⟩
theorem lw_p26 : lw_okq (⟨"PairedSteps$Trace", "look", "(LPairedSteps$Listing;I)I"⟩, 9) := ⟨⟨by decide +kernel, by decide +kernel⟩, List.mem_of_getElem? (i := 128) (by decide +kernel), List.mem_of_getElem? (i := 526) (by decide +kernel), List.mem_of_getElem? (i := 527) (by decide +kernel)⟩
theorem lw_p27 : lw_okq (⟨"PairedSteps$Sides", "leadAt", "(I)I"⟩, 2) := ⟨⟨by decide +kernel, by decide +kernel⟩, List.mem_of_getElem? (i := 122) (by decide +kernel), List.mem_of_getElem? (i := 583) (by decide +kernel), List.mem_of_getElem? (i := 584) (by decide +kernel)⟩
theorem lw_p28 : lw_okq (⟨"PairedSteps$Sides", "isEven", "(I)Z"⟩, 2) := ⟨⟨by decide +kernel, by decide +kernel⟩, List.mem_of_getElem? (i := 122) (by decide +kernel), List.mem_of_getElem? (i := 603) (by decide +kernel), List.mem_of_getElem? (i := 604) (by decide +kernel)⟩
theorem lw_p29 : lw_okq (⟨"PairedSteps$Sides", "isAlwaysSame", "(II)Z"⟩, 2) := ⟨⟨by decide +kernel, by decide +kernel⟩, List.mem_of_getElem? (i := 122) (by decide +kernel), List.mem_of_getElem? (i := 616) (by decide +kernel), List.mem_of_getElem? (i := 617) (by decide +kernel)⟩
theorem lw_p30 : lw_okq (⟨"PairedSteps", "keepOutputsOf", "(LPairedSteps$Listing;)V"⟩, 8) := ⟨⟨by decide +kernel, by decide +kernel⟩, List.mem_of_getElem? (i := 13) (by decide +kernel), List.mem_of_getElem? (i := 656) (by decide +kernel), List.mem_of_getElem? (i := 657) (by decide +kernel)⟩
theorem lw_p31 : lw_okq (⟨"PairedSteps", "putsOutAsBefore", "(LPairedSteps$Listing;)Z"⟩, 8) := ⟨⟨by decide +kernel, by decide +kernel⟩, List.mem_of_getElem? (i := 13) (by decide +kernel), List.mem_of_getElem? (i := 665) (by decide +kernel), List.mem_of_getElem? (i := 666) (by decide +kernel)⟩
def lw_privs_2 : List (MethodName × Nat) := [(⟨"PairedSteps", "listingOf", "(I)LPairedSteps$Listing;"⟩, 8), (⟨"PairedSteps$Listing", "moveDown", "(II)V"⟩, 10), (⟨"PairedSteps$Listing", "depthOf", "(I)I"⟩, 10), (⟨"PairedSteps", "traceOf", "(III)LPairedSteps$Trace;"⟩, 8), (⟨"PairedSteps$Trace", "begin", "(II)V"⟩, 9), (⟨"PairedSteps$Trace", "stepFrom", "(LPairedSteps$Listing;I)I"⟩, 9), (⟨"PairedSteps$Trace", "resultOf", "(LPairedSteps$Listing;I)I"⟩, 9), (⟨"PairedSteps$Trace", "termValue", "(I)I"⟩, 9), (⟨"PairedSteps$Trace", "setCell", "(II)V"⟩, 9), (⟨"PairedSteps$Trace", "keepMark", "()V"⟩, 9), (⟨"PairedSteps$Trace", "look", "(LPairedSteps$Listing;I)I"⟩, 9), (⟨"PairedSteps$Sides", "leadAt", "(I)I"⟩, 2), (⟨"PairedSteps$Sides", "isEven", "(I)Z"⟩, 2), (⟨"PairedSteps$Sides", "isAlwaysSame", "(II)Z"⟩, 2), (⟨"PairedSteps", "keepOutputsOf", "(LPairedSteps$Listing;)V"⟩, 8), (⟨"PairedSteps", "putsOutAsBefore", "(LPairedSteps$Listing;)Z"⟩, 8)]
theorem lw_r2 : ∀ q ∈ lw_privs_2, lw_okq q := List.forall_mem_cons.mpr ⟨lw_p16, List.forall_mem_cons.mpr ⟨lw_p17, List.forall_mem_cons.mpr ⟨lw_p18, List.forall_mem_cons.mpr ⟨lw_p19, List.forall_mem_cons.mpr ⟨lw_p20, List.forall_mem_cons.mpr ⟨lw_p21, List.forall_mem_cons.mpr ⟨lw_p22, List.forall_mem_cons.mpr ⟨lw_p23, List.forall_mem_cons.mpr ⟨lw_p24, List.forall_mem_cons.mpr ⟨lw_p25, List.forall_mem_cons.mpr ⟨lw_p26, List.forall_mem_cons.mpr ⟨lw_p27, List.forall_mem_cons.mpr ⟨lw_p28, List.forall_mem_cons.mpr ⟨lw_p29, List.forall_mem_cons.mpr ⟨lw_p30, List.forall_mem_cons.mpr ⟨lw_p31, fun _ h => absurd h List.not_mem_nil⟩⟩⟩⟩⟩⟩⟩⟩⟩⟩⟩⟩⟩⟩⟩⟩
theorem lw_p32 : lw_okq (⟨"PairedStepsModel", "readsAll", "()Z"⟩, 20) := ⟨⟨by decide +kernel, by decide +kernel⟩, List.mem_of_getElem? (i := 670) (by decide +kernel), List.mem_of_getElem? (i := 759) (by decide +kernel), List.mem_of_getElem? (i := 760) (by decide +kernel)⟩
theorem lw_p33 : lw_okq (⟨"PairedStepsModel", "here", "()I"⟩, 20) := ⟨⟨by decide +kernel, by decide +kernel⟩, List.mem_of_getElem? (i := 670) (by decide +kernel), List.mem_of_getElem? (i := 763) (by decide +kernel), List.mem_of_getElem? (i := 764) (by decide +kernel)⟩
theorem lw_p34 : lw_okq (⟨"PairedStepsModel", "readsStatement", "(II)Z"⟩, 20) := ⟨⟨by decide +kernel, by decide +kernel⟩, List.mem_of_getElem? (i := 670) (by decide +kernel), List.mem_of_getElem? (i := 773) (by decide +kernel), List.mem_of_getElem? (i := 774) (by decide +kernel)⟩
theorem lw_p35 : lw_okq (⟨"PairedStepsModel", "put", "(III)V"⟩, 20) := ⟨⟨by decide +kernel, by decide +kernel⟩, List.mem_of_getElem? (i := 670) (by decide +kernel), List.mem_of_getElem? (i := 777) (by decide +kernel), List.mem_of_getElem? (i := 778) (by decide +kernel)⟩
theorem lw_p36 : lw_okq (⟨"PairedStepsModel", "readsSetting", "(I)Z"⟩, 20) := ⟨⟨by decide +kernel, by decide +kernel⟩, List.mem_of_getElem? (i := 670) (by decide +kernel), List.mem_of_getElem? (i := 781) (by decide +kernel), List.mem_of_getElem? (i := 782) (by decide +kernel)⟩
theorem lw_p37 : lw_okq (⟨"PairedStepsModel", "readsCell", "(I)Z"⟩, 20) := ⟨⟨by decide +kernel, by decide +kernel⟩, List.mem_of_getElem? (i := 670) (by decide +kernel), List.mem_of_getElem? (i := 785) (by decide +kernel), List.mem_of_getElem? (i := 786) (by decide +kernel)⟩
theorem lw_p38 : lw_okq (⟨"PairedStepsModel", "passes", "(I)Z"⟩, 20) := ⟨⟨by decide +kernel, by decide +kernel⟩, List.mem_of_getElem? (i := 670) (by decide +kernel), List.mem_of_getElem? (i := 789) (by decide +kernel), List.mem_of_getElem? (i := 790) (by decide +kernel)⟩
theorem lw_p39 : lw_okq (⟨"PairedStepsModel", "readsTerm", "(II)Z"⟩, 20) := ⟨⟨by decide +kernel, by decide +kernel⟩, List.mem_of_getElem? (i := 670) (by decide +kernel), List.mem_of_getElem? (i := 793) (by decide +kernel), List.mem_of_getElem? (i := 794) (by decide +kernel)⟩
theorem lw_p40 : lw_okq (⟨"PairedStepsModel", "saves", "()V"⟩, 20) := ⟨⟨by decide +kernel, by decide +kernel⟩, List.mem_of_getElem? (i := 670) (by decide +kernel), List.mem_of_getElem? (i := 797) (by decide +kernel), List.mem_of_getElem? (i := 798) (by decide +kernel)⟩
theorem lw_p41 : lw_okq (⟨"PairedStepsModel", "lays", "(I)V"⟩, 20) := ⟨⟨by decide +kernel, by decide +kernel⟩, List.mem_of_getElem? (i := 670) (by decide +kernel), List.mem_of_getElem? (i := 801) (by decide +kernel), List.mem_of_getElem? (i := 802) (by decide +kernel)⟩
theorem lw_p42 : lw_okq (⟨"PairedStepsModel", "takes", "(I)V"⟩, 20) := ⟨⟨by decide +kernel, by decide +kernel⟩, List.mem_of_getElem? (i := 670) (by decide +kernel), List.mem_of_getElem? (i := 809) (by decide +kernel), List.mem_of_getElem? (i := 810) (by decide +kernel)⟩
theorem lw_p43 : lw_okq (⟨"PairedStepsModel", "isStatement", "(II)Z"⟩, 20) := ⟨⟨by decide +kernel, by decide +kernel⟩, List.mem_of_getElem? (i := 670) (by decide +kernel), List.mem_of_getElem? (i := 821) (by decide +kernel), List.mem_of_getElem? (i := 822) (by decide +kernel)⟩
theorem lw_p44 : lw_okq (⟨"PairedStepsModel", "cuts", "(I)V"⟩, 20) := ⟨⟨by decide +kernel, by decide +kernel⟩, List.mem_of_getElem? (i := 670) (by decide +kernel), List.mem_of_getElem? (i := 825) (by decide +kernel), List.mem_of_getElem? (i := 826) (by decide +kernel)⟩
theorem lw_p45 : lw_okq (⟨"PairedStepsModel", "sizeOf", "(I)I"⟩, 20) := ⟨⟨by decide +kernel, by decide +kernel⟩, List.mem_of_getElem? (i := 670) (by decide +kernel), List.mem_of_getElem? (i := 829) (by decide +kernel), List.mem_of_getElem? (i := 830) (by decide +kernel)⟩
theorem lw_p46 : lw_okq (⟨"PairedStepsModel", "of", "(II)I"⟩, 20) := ⟨⟨by decide +kernel, by decide +kernel⟩, List.mem_of_getElem? (i := 670) (by decide +kernel), List.mem_of_getElem? (i := 833) (by decide +kernel), List.mem_of_getElem? (i := 834) (by decide +kernel)⟩
theorem lw_p47 : lw_okq (⟨"PairedStepsModel", "depthAll", "()I"⟩, 20) := ⟨⟨by decide +kernel, by decide +kernel⟩, List.mem_of_getElem? (i := 670) (by decide +kernel), List.mem_of_getElem? (i := 845) (by decide +kernel), List.mem_of_getElem? (i := 846) (by decide +kernel)⟩
def lw_privs_3 : List (MethodName × Nat) := [(⟨"PairedStepsModel", "readsAll", "()Z"⟩, 20), (⟨"PairedStepsModel", "here", "()I"⟩, 20), (⟨"PairedStepsModel", "readsStatement", "(II)Z"⟩, 20), (⟨"PairedStepsModel", "put", "(III)V"⟩, 20), (⟨"PairedStepsModel", "readsSetting", "(I)Z"⟩, 20), (⟨"PairedStepsModel", "readsCell", "(I)Z"⟩, 20), (⟨"PairedStepsModel", "passes", "(I)Z"⟩, 20), (⟨"PairedStepsModel", "readsTerm", "(II)Z"⟩, 20), (⟨"PairedStepsModel", "saves", "()V"⟩, 20), (⟨"PairedStepsModel", "lays", "(I)V"⟩, 20), (⟨"PairedStepsModel", "takes", "(I)V"⟩, 20), (⟨"PairedStepsModel", "isStatement", "(II)Z"⟩, 20), (⟨"PairedStepsModel", "cuts", "(I)V"⟩, 20), (⟨"PairedStepsModel", "sizeOf", "(I)I"⟩, 20), (⟨"PairedStepsModel", "of", "(II)I"⟩, 20), (⟨"PairedStepsModel", "depthAll", "()I"⟩, 20)]
theorem lw_r3 : ∀ q ∈ lw_privs_3, lw_okq q := List.forall_mem_cons.mpr ⟨lw_p32, List.forall_mem_cons.mpr ⟨lw_p33, List.forall_mem_cons.mpr ⟨lw_p34, List.forall_mem_cons.mpr ⟨lw_p35, List.forall_mem_cons.mpr ⟨lw_p36, List.forall_mem_cons.mpr ⟨lw_p37, List.forall_mem_cons.mpr ⟨lw_p38, List.forall_mem_cons.mpr ⟨lw_p39, List.forall_mem_cons.mpr ⟨lw_p40, List.forall_mem_cons.mpr ⟨lw_p41, List.forall_mem_cons.mpr ⟨lw_p42, List.forall_mem_cons.mpr ⟨lw_p43, List.forall_mem_cons.mpr ⟨lw_p44, List.forall_mem_cons.mpr ⟨lw_p45, List.forall_mem_cons.mpr ⟨lw_p46, List.forall_mem_cons.mpr ⟨lw_p47, fun _ h => absurd h List.not_mem_nil⟩⟩⟩⟩⟩⟩⟩⟩⟩⟩⟩⟩⟩⟩⟩⟩
theorem lw_p48 : lw_okq (⟨"PairedStepsModel", "canSet", "()I"⟩, 20) := ⟨⟨by decide +kernel, by decide +kernel⟩, List.mem_of_getElem? (i := 670) (by decide +kernel), List.mem_of_getElem? (i := 849) (by decide +kernel), List.mem_of_getElem? (i := 850) (by decide +kernel)⟩
theorem lw_p49 : lw_okq (⟨"PairedStepsModel", "ofKind", "(I)I"⟩, 20) := ⟨⟨by decide +kernel, by decide +kernel⟩, List.mem_of_getElem? (i := 670) (by decide +kernel), List.mem_of_getElem? (i := 853) (by decide +kernel), List.mem_of_getElem? (i := 854) (by decide +kernel)⟩
theorem lw_p50 : lw_okq (⟨"PairedStepsModel", "runsOne", "(III)V"⟩, 20) := ⟨⟨by decide +kernel, by decide +kernel⟩, List.mem_of_getElem? (i := 670) (by decide +kernel), List.mem_of_getElem? (i := 864) (by decide +kernel), List.mem_of_getElem? (i := 865) (by decide +kernel)⟩
theorem lw_p51 : lw_okq (⟨"PairedStepsModel", "runs", "(III)V"⟩, 20) := ⟨⟨by decide +kernel, by decide +kernel⟩, List.mem_of_getElem? (i := 670) (by decide +kernel), List.mem_of_getElem? (i := 868) (by decide +kernel), List.mem_of_getElem? (i := 869) (by decide +kernel)⟩
theorem lw_p52 : lw_okq (⟨"PairedStepsModel", "roundOf", "(II)V"⟩, 20) := ⟨⟨by decide +kernel, by decide +kernel⟩, List.mem_of_getElem? (i := 670) (by decide +kernel), List.mem_of_getElem? (i := 872) (by decide +kernel), List.mem_of_getElem? (i := 873) (by decide +kernel)⟩
theorem lw_p53 : lw_okq (⟨"PairedStepsModel", "does", "(III)V"⟩, 20) := ⟨⟨by decide +kernel, by decide +kernel⟩, List.mem_of_getElem? (i := 670) (by decide +kernel), List.mem_of_getElem? (i := 876) (by decide +kernel), List.mem_of_getElem? (i := 877) (by decide +kernel)⟩
theorem lw_p54 : lw_okq (⟨"PairedStepsModel", "sets", "(II)V"⟩, 20) := ⟨⟨by decide +kernel, by decide +kernel⟩, List.mem_of_getElem? (i := 670) (by decide +kernel), List.mem_of_getElem? (i := 880) (by decide +kernel), List.mem_of_getElem? (i := 881) (by decide +kernel)⟩
theorem lw_p55 : lw_okq (⟨"PairedStepsModel", "term", "(II)I"⟩, 20) := ⟨⟨by decide +kernel, by decide +kernel⟩, List.mem_of_getElem? (i := 670) (by decide +kernel), List.mem_of_getElem? (i := 884) (by decide +kernel), List.mem_of_getElem? (i := 885) (by decide +kernel)⟩
theorem lw_p56 : lw_okq (⟨"PairedStepsModel", "tellsCell", "(II)V"⟩, 20) := ⟨⟨by decide +kernel, by decide +kernel⟩, List.mem_of_getElem? (i := 670) (by decide +kernel), List.mem_of_getElem? (i := 891) (by decide +kernel), List.mem_of_getElem? (i := 892) (by decide +kernel)⟩
theorem lw_p57 : lw_okq (⟨"PairedStepsModel", "marks", "(I)V"⟩, 20) := ⟨⟨by decide +kernel, by decide +kernel⟩, List.mem_of_getElem? (i := 670) (by decide +kernel), List.mem_of_getElem? (i := 895) (by decide +kernel), List.mem_of_getElem? (i := 896) (by decide +kernel)⟩
theorem lw_p58 : lw_okq (⟨"PairedStepsModel", "runsBoth", "(II)V"⟩, 20) := ⟨⟨by decide +kernel, by decide +kernel⟩, List.mem_of_getElem? (i := 670) (by decide +kernel), List.mem_of_getElem? (i := 917) (by decide +kernel), List.mem_of_getElem? (i := 918) (by decide +kernel)⟩
theorem lw_p59 : lw_okq (⟨"PairedStepsModel", "pairMany", "()I"⟩, 20) := ⟨⟨by decide +kernel, by decide +kernel⟩, List.mem_of_getElem? (i := 670) (by decide +kernel), List.mem_of_getElem? (i := 921) (by decide +kernel), List.mem_of_getElem? (i := 922) (by decide +kernel)⟩
theorem lw_p60 : lw_okq (⟨"PairedStepsModel", "allEqual", "()I"⟩, 20) := ⟨⟨by decide +kernel, by decide +kernel⟩, List.mem_of_getElem? (i := 670) (by decide +kernel), List.mem_of_getElem? (i := 925) (by decide +kernel), List.mem_of_getElem? (i := 926) (by decide +kernel)⟩
theorem lw_p61 : lw_okq (⟨"PairedStepsModel", "isEqual", "(III)Z"⟩, 20) := ⟨⟨by decide +kernel, by decide +kernel⟩, List.mem_of_getElem? (i := 670) (by decide +kernel), List.mem_of_getElem? (i := 929) (by decide +kernel), List.mem_of_getElem? (i := 930) (by decide +kernel)⟩
theorem lw_p62 : lw_okq (⟨"PairedStepsModel", "greatestLead", "()I"⟩, 20) := ⟨⟨by decide +kernel, by decide +kernel⟩, List.mem_of_getElem? (i := 670) (by decide +kernel), List.mem_of_getElem? (i := 933) (by decide +kernel), List.mem_of_getElem? (i := 934) (by decide +kernel)⟩
theorem lw_p63 : lw_okq (⟨"PairedStepsModel", "leadOf", "(I)I"⟩, 20) := ⟨⟨by decide +kernel, by decide +kernel⟩, List.mem_of_getElem? (i := 670) (by decide +kernel), List.mem_of_getElem? (i := 937) (by decide +kernel), List.mem_of_getElem? (i := 938) (by decide +kernel)⟩
def lw_privs_4 : List (MethodName × Nat) := [(⟨"PairedStepsModel", "canSet", "()I"⟩, 20), (⟨"PairedStepsModel", "ofKind", "(I)I"⟩, 20), (⟨"PairedStepsModel", "runsOne", "(III)V"⟩, 20), (⟨"PairedStepsModel", "runs", "(III)V"⟩, 20), (⟨"PairedStepsModel", "roundOf", "(II)V"⟩, 20), (⟨"PairedStepsModel", "does", "(III)V"⟩, 20), (⟨"PairedStepsModel", "sets", "(II)V"⟩, 20), (⟨"PairedStepsModel", "term", "(II)I"⟩, 20), (⟨"PairedStepsModel", "tellsCell", "(II)V"⟩, 20), (⟨"PairedStepsModel", "marks", "(I)V"⟩, 20), (⟨"PairedStepsModel", "runsBoth", "(II)V"⟩, 20), (⟨"PairedStepsModel", "pairMany", "()I"⟩, 20), (⟨"PairedStepsModel", "allEqual", "()I"⟩, 20), (⟨"PairedStepsModel", "isEqual", "(III)Z"⟩, 20), (⟨"PairedStepsModel", "greatestLead", "()I"⟩, 20), (⟨"PairedStepsModel", "leadOf", "(I)I"⟩, 20)]
theorem lw_r4 : ∀ q ∈ lw_privs_4, lw_okq q := List.forall_mem_cons.mpr ⟨lw_p48, List.forall_mem_cons.mpr ⟨lw_p49, List.forall_mem_cons.mpr ⟨lw_p50, List.forall_mem_cons.mpr ⟨lw_p51, List.forall_mem_cons.mpr ⟨lw_p52, List.forall_mem_cons.mpr ⟨lw_p53, List.forall_mem_cons.mpr ⟨lw_p54, List.forall_mem_cons.mpr ⟨lw_p55, List.forall_mem_cons.mpr ⟨lw_p56, List.forall_mem_cons.mpr ⟨lw_p57, List.forall_mem_cons.mpr ⟨lw_p58, List.forall_mem_cons.mpr ⟨lw_p59, List.forall_mem_cons.mpr ⟨lw_p60, List.forall_mem_cons.mpr ⟨lw_p61, List.forall_mem_cons.mpr ⟨lw_p62, List.forall_mem_cons.mpr ⟨lw_p63, fun _ h => absurd h List.not_mem_nil⟩⟩⟩⟩⟩⟩⟩⟩⟩⟩⟩⟩⟩⟩⟩⟩
theorem lw_p64 : lw_okq (⟨"PairedStepsModel", "equalTo", "(I)I"⟩, 20) := ⟨⟨by decide +kernel, by decide +kernel⟩, List.mem_of_getElem? (i := 670) (by decide +kernel), List.mem_of_getElem? (i := 945) (by decide +kernel), List.mem_of_getElem? (i := 946) (by decide +kernel)⟩
theorem lw_p65 : lw_okq (⟨"PairedStepsModel", "firstDifference", "()I"⟩, 20) := ⟨⟨by decide +kernel, by decide +kernel⟩, List.mem_of_getElem? (i := 670) (by decide +kernel), List.mem_of_getElem? (i := 953) (by decide +kernel), List.mem_of_getElem? (i := 954) (by decide +kernel)⟩
theorem lw_p66 : lw_okq (⟨"PairedStepsModel", "agreeOn", "(II)Z"⟩, 20) := ⟨⟨by decide +kernel, by decide +kernel⟩, List.mem_of_getElem? (i := 670) (by decide +kernel), List.mem_of_getElem? (i := 961) (by decide +kernel), List.mem_of_getElem? (i := 962) (by decide +kernel)⟩
theorem lw_p67 : lw_okq (⟨"PairedStepsModel", "keeps", "(I)V"⟩, 20) := ⟨⟨by decide +kernel, by decide +kernel⟩, List.mem_of_getElem? (i := 670) (by decide +kernel), List.mem_of_getElem? (i := 973) (by decide +kernel), List.mem_of_getElem? (i := 974) (by decide +kernel)⟩
theorem lw_p68 : lw_okq (⟨"PairedStepsModel", "isIdle", "(II)Z"⟩, 20) := ⟨⟨by decide +kernel, by decide +kernel⟩, List.mem_of_getElem? (i := 670) (by decide +kernel), List.mem_of_getElem? (i := 977) (by decide +kernel), List.mem_of_getElem? (i := 978) (by decide +kernel)⟩
def lw_privs_5 : List (MethodName × Nat) := [(⟨"PairedStepsModel", "equalTo", "(I)I"⟩, 20), (⟨"PairedStepsModel", "firstDifference", "()I"⟩, 20), (⟨"PairedStepsModel", "agreeOn", "(II)Z"⟩, 20), (⟨"PairedStepsModel", "keeps", "(I)V"⟩, 20), (⟨"PairedStepsModel", "isIdle", "(II)Z"⟩, 20)]
theorem lw_r5 : ∀ q ∈ lw_privs_5, lw_okq q := List.forall_mem_cons.mpr ⟨lw_p64, List.forall_mem_cons.mpr ⟨lw_p65, List.forall_mem_cons.mpr ⟨lw_p66, List.forall_mem_cons.mpr ⟨lw_p67, List.forall_mem_cons.mpr ⟨lw_p68, fun _ h => absurd h List.not_mem_nil⟩⟩⟩⟩⟩
def lw_privs : List (MethodName × Nat) := lw_privs_1 ++ (lw_privs_2 ++ (lw_privs_3 ++ (lw_privs_4 ++ (lw_privs_5))))
def lw_tbl : List Cond := k2_sels lw_privs ++ tables_1
theorem lw_privs_ok : ∀ q ∈ lw_privs, lw_okq q := by
  show ∀ q ∈ lw_privs_1 ++ (lw_privs_2 ++ (lw_privs_3 ++ (lw_privs_4 ++ (lw_privs_5)))), lw_okq q
  exact List.forall_mem_append.mpr ⟨lw_r1, List.forall_mem_append.mpr ⟨lw_r2, List.forall_mem_append.mpr ⟨lw_r3, List.forall_mem_append.mpr ⟨lw_r4, lw_r5⟩⟩⟩⟩


def RX0 : String := "PairedSteps$History"
def TX0 : u_T := fun k => match k with
  | 0 => ("PairedSteps$History", "zeroths", "[LPairedSteps$Listing;", true)
  | 1 => ("PairedSteps$History", "others", "[LPairedSteps$Listing;", true)
  | _ => ("PairedSteps$History", "size", "I", false)
def tyX0 : Nat → FieldType := fun k => match k with
  | 0 => .array (.object "PairedSteps$Listing")
  | 1 => .array (.object "PairedSteps$Listing")
  | _ => .int
abbrev wsX00 : List Cond := u_ws RX0 TX0 3
theorem nmX0 : ∀ a, a < 3 → ∀ b, b < 3 → a ≠ b → (TX0 a).2.1 ≠ (TX0 b).2.1 := by decide +kernel
theorem tyX0_ok : ∀ k, k < 3 → parseFieldDescriptor (TX0 k).2.2.1 = some (tyX0 k) := by decide +kernel
abbrev cX0_init : ByteArray := prog_2_method_1_code
def yX0_init : MethodName := ⟨RX0, "<init>", "()V"⟩
abbrev cX0_push : ByteArray := prog_2_method_2_code
def yX0_push : MethodName := ⟨RX0, "push", "(LPairedSteps$Listing;LPairedSteps$Listing;)V"⟩
abbrev cX0_pop : ByteArray := prog_2_method_3_code
def yX0_pop : MethodName := ⟨RX0, "pop", "(LPairedSteps$Listing;LPairedSteps$Listing;)V"⟩
abbrev cX0_dropOldest : ByteArray := prog_2_method_4_code
def yX0_dropOldest : MethodName := ⟨RX0, "dropOldest", "()V"⟩
def RX1 : String := "PairedSteps$Listing"
def TX1 : u_T := fun k => match k with
  | 0 => ("PairedSteps$Listing", "size", "I", false)
  | 1 => ("PairedSteps$Listing", "kinds", "[I", true)
  | 2 => ("PairedSteps$Listing", "targets", "[I", true)
  | 3 => ("PairedSteps$Listing", "lefts", "[I", true)
  | 4 => ("PairedSteps$Listing", "operators", "[I", true)
  | 5 => ("PairedSteps$Listing", "rights", "[I", true)
  | 6 => ("PairedSteps$Listing", "outers", "[I", true)
  | 7 => ("PairedSteps$Listing", "middles", "[I", true)
  | 8 => ("PairedSteps$Listing", "ends", "[I", true)
  | _ => ("PairedSteps$Listing", "followers", "[I", true)
def tyX1 : Nat → FieldType := fun k => match k with
  | 0 => .int
  | 1 => .array .int
  | 2 => .array .int
  | 3 => .array .int
  | 4 => .array .int
  | 5 => .array .int
  | 6 => .array .int
  | 7 => .array .int
  | 8 => .array .int
  | _ => .array .int
abbrev wsX10 : List Cond := u_ws RX1 TX1 10
theorem nmX1 : ∀ a, a < 10 → ∀ b, b < 10 → a ≠ b → (TX1 a).2.1 ≠ (TX1 b).2.1 := by decide +kernel
theorem tyX1_ok : ∀ k, k < 10 → parseFieldDescriptor (TX1 k).2.2.1 = some (tyX1 k) := by decide +kernel
abbrev cX1_init : ByteArray := prog_3_method_1_code
def yX1_init : MethodName := ⟨RX1, "<init>", "()V"⟩
abbrev cX1_isFull : ByteArray := prog_3_method_2_code
def yX1_isFull : MethodName := ⟨RX1, "isFull", "()Z"⟩
abbrev cX1_holds : ByteArray := prog_3_method_3_code
def yX1_holds : MethodName := ⟨RX1, "holds", "(I)Z"⟩
abbrev cX1_add : ByteArray := prog_3_method_4_code
def yX1_add : MethodName := ⟨RX1, "add", "(III)Z"⟩
abbrev cX1_setTerms : ByteArray := prog_3_method_5_code
def yX1_setTerms : MethodName := ⟨RX1, "setTerms", "(III)V"⟩
abbrev cX1_endFirstPart : ByteArray := prog_3_method_6_code
def yX1_endFirstPart : MethodName := ⟨RX1, "endFirstPart", "(I)V"⟩
abbrev cX1_close : ByteArray := prog_3_method_7_code
def yX1_close : MethodName := ⟨RX1, "close", "(I)V"⟩
abbrev cX1_takeFrom : ByteArray := prog_3_method_8_code
def yX1_takeFrom : MethodName := ⟨RX1, "takeFrom", "(LPairedSteps$Listing;)V"⟩
abbrev cX1_remove : ByteArray := prog_3_method_9_code
def yX1_remove : MethodName := ⟨RX1, "remove", "(I)V"⟩
abbrev cX1_moveDown : ByteArray := prog_3_method_10_code
def yX1_moveDown : MethodName := ⟨RX1, "moveDown", "(II)V"⟩
abbrev cX1_placeWithout : ByteArray := prog_3_method_11_code
def yX1_placeWithout : MethodName := ⟨RX1, "placeWithout", "(III)I"⟩
abbrev cX1_link : ByteArray := prog_3_method_12_code
def yX1_link : MethodName := ⟨RX1, "link", "()V"⟩
abbrev cX1_followerOf : ByteArray := prog_3_method_13_code
def yX1_followerOf : MethodName := ⟨RX1, "followerOf", "(I)I"⟩
abbrev cX1_entered : ByteArray := prog_3_method_14_code
def yX1_entered : MethodName := ⟨RX1, "entered", "(I)I"⟩
abbrev cX1_passed : ByteArray := prog_3_method_15_code
def yX1_passed : MethodName := ⟨RX1, "passed", "(I)I"⟩
abbrev cX1_kindOf : ByteArray := prog_3_method_16_code
def yX1_kindOf : MethodName := ⟨RX1, "kindOf", "(I)I"⟩
abbrev cX1_targetOf : ByteArray := prog_3_method_17_code
def yX1_targetOf : MethodName := ⟨RX1, "targetOf", "(I)I"⟩
abbrev cX1_leftOf : ByteArray := prog_3_method_18_code
def yX1_leftOf : MethodName := ⟨RX1, "leftOf", "(I)I"⟩
abbrev cX1_operatorOf : ByteArray := prog_3_method_19_code
def yX1_operatorOf : MethodName := ⟨RX1, "operatorOf", "(I)I"⟩
abbrev cX1_rightOf : ByteArray := prog_3_method_20_code
def yX1_rightOf : MethodName := ⟨RX1, "rightOf", "(I)I"⟩
abbrev cX1_followerAt : ByteArray := prog_3_method_21_code
def yX1_followerAt : MethodName := ⟨RX1, "followerAt", "(I)I"⟩
abbrev cX1_item : ByteArray := prog_3_method_22_code
def yX1_item : MethodName := ⟨RX1, "item", "([II)I"⟩
abbrev cX1_tally : ByteArray := prog_3_method_23_code
def yX1_tally : MethodName := ⟨RX1, "tally", "(I)I"⟩
abbrev cX1_nesting : ByteArray := prog_3_method_24_code
def yX1_nesting : MethodName := ⟨RX1, "nesting", "()I"⟩
abbrev cX1_depthOf : ByteArray := prog_3_method_25_code
def yX1_depthOf : MethodName := ⟨RX1, "depthOf", "(I)I"⟩
abbrev cX1_settableCells : ByteArray := prog_3_method_26_code
def yX1_settableCells : MethodName := ⟨RX1, "settableCells", "()I"⟩
def RX2 : String := "PairedSteps$Output"
def TX2 : u_T := fun k => match k with
  | 0 => ("PairedSteps$Output", "values", "[I", true)
  | 1 => ("PairedSteps$Output", "total", "I", false)
  | _ => ("PairedSteps$Output", "cutOff", "Z", false)
def tyX2 : Nat → FieldType := fun k => match k with
  | 0 => .array .int
  | 1 => .int
  | _ => .boolean
abbrev wsX20 : List Cond := u_ws RX2 TX2 3
theorem nmX2 : ∀ a, a < 3 → ∀ b, b < 3 → a ≠ b → (TX2 a).2.1 ≠ (TX2 b).2.1 := by decide +kernel
theorem tyX2_ok : ∀ k, k < 3 → parseFieldDescriptor (TX2 k).2.2.1 = some (tyX2 k) := by decide +kernel
abbrev cX2_init : ByteArray := prog_4_method_1_code
def yX2_init : MethodName := ⟨RX2, "<init>", "()V"⟩
abbrev cX2_begin : ByteArray := prog_4_method_2_code
def yX2_begin : MethodName := ⟨RX2, "begin", "()V"⟩
abbrev cX2_add : ByteArray := prog_4_method_3_code
def yX2_add : MethodName := ⟨RX2, "add", "(I)V"⟩
abbrev cX2_takeFrom : ByteArray := prog_4_method_4_code
def yX2_takeFrom : MethodName := ⟨RX2, "takeFrom", "(LPairedSteps$Output;)V"⟩
abbrev cX2_valueAt : ByteArray := prog_4_method_5_code
def yX2_valueAt : MethodName := ⟨RX2, "valueAt", "(I)I"⟩
abbrev cX2_firstDifference : ByteArray := prog_4_method_6_code
def yX2_firstDifference : MethodName := ⟨RX2, "firstDifference", "(LPairedSteps$Output;)I"⟩
abbrev cX2_hasValuesOf : ByteArray := prog_4_method_7_code
def yX2_hasValuesOf : MethodName := ⟨RX2, "hasValuesOf", "(LPairedSteps$Output;)Z"⟩
def RX3 : String := "PairedSteps$Reader"
def TX3 : u_T := fun k => match k with
  | 0 => ("PairedSteps$Reader", "text", "LPairedSteps$Text;", true)
  | 1 => ("PairedSteps$Reader", "draft", "LPairedSteps$Listing;", true)
  | 2 => ("PairedSteps$Reader", "opened", "[I", true)
  | 3 => ("PairedSteps$Reader", "awaited", "[I", true)
  | 4 => ("PairedSteps$Reader", "depth", "I", false)
  | _ => ("PairedSteps$Reader", "place", "I", false)
def tyX3 : Nat → FieldType := fun k => match k with
  | 0 => .object "PairedSteps$Text"
  | 1 => .object "PairedSteps$Listing"
  | 2 => .array .int
  | 3 => .array .int
  | 4 => .int
  | _ => .int
abbrev wsX30 : List Cond := u_ws RX3 TX3 6
theorem nmX3 : ∀ a, a < 6 → ∀ b, b < 6 → a ≠ b → (TX3 a).2.1 ≠ (TX3 b).2.1 := by decide +kernel
theorem tyX3_ok : ∀ k, k < 6 → parseFieldDescriptor (TX3 k).2.2.1 = some (tyX3 k) := by decide +kernel
abbrev cX3_init : ByteArray := prog_5_method_1_code
def yX3_init : MethodName := ⟨RX3, "<init>", "(LPairedSteps$Text;LPairedSteps$Listing;)V"⟩
abbrev cX3_readDraft : ByteArray := prog_5_method_2_code
def yX3_readDraft : MethodName := ⟨RX3, "readDraft", "()Z"⟩
abbrev cX3_readStatement : ByteArray := prog_5_method_3_code
def yX3_readStatement : MethodName := ⟨RX3, "readStatement", "(I)Z"⟩
abbrev cX3_readTell : ByteArray := prog_5_method_4_code
def yX3_readTell : MethodName := ⟨RX3, "readTell", "()Z"⟩
abbrev cX3_readSetting : ByteArray := prog_5_method_5_code
def yX3_readSetting : MethodName := ⟨RX3, "readSetting", "()Z"⟩
abbrev cX3_readOpening : ByteArray := prog_5_method_6_code
def yX3_readOpening : MethodName := ⟨RX3, "readOpening", "(II)Z"⟩
abbrev cX3_goOn : ByteArray := prog_5_method_7_code
def yX3_goOn : MethodName := ⟨RX3, "goOn", "(I)V"⟩
abbrev cX3_innermost : ByteArray := prog_5_method_8_code
def yX3_innermost : MethodName := ⟨RX3, "innermost", "()I"⟩
abbrev cX3_awaitedSign : ByteArray := prog_5_method_9_code
def yX3_awaitedSign : MethodName := ⟨RX3, "awaitedSign", "()I"⟩
abbrev cX3_nextSign : ByteArray := prog_5_method_10_code
def yX3_nextSign : MethodName := ⟨RX3, "nextSign", "()I"⟩
abbrev cX3_take : ByteArray := prog_5_method_11_code
def yX3_take : MethodName := ⟨RX3, "take", "(I)Z"⟩
abbrev cX3_takeCell : ByteArray := prog_5_method_12_code
def yX3_takeCell : MethodName := ⟨RX3, "takeCell", "()I"⟩
abbrev cX3_takeOperator : ByteArray := prog_5_method_13_code
def yX3_takeOperator : MethodName := ⟨RX3, "takeOperator", "()I"⟩
abbrev cX3_takeTerm : ByteArray := prog_5_method_14_code
def yX3_takeTerm : MethodName := ⟨RX3, "takeTerm", "()I"⟩
abbrev cX3_takeNumber : ByteArray := prog_5_method_15_code
def yX3_takeNumber : MethodName := ⟨RX3, "takeNumber", "()I"⟩
abbrev cX3_isDigit : ByteArray := prog_5_method_16_code
def yX3_isDigit : MethodName := ⟨RX3, "isDigit", "(I)Z"⟩
def RX4 : String := "PairedSteps$Sides"
def TX4 : u_T := fun k => match k with
  | 0 => ("PairedSteps$Sides", "zeroth", "LPairedSteps$Trace;", true)
  | _ => ("PairedSteps$Sides", "other", "LPairedSteps$Trace;", true)
def tyX4 : Nat → FieldType := fun k => match k with
  | 0 => .object "PairedSteps$Trace"
  | _ => .object "PairedSteps$Trace"
abbrev wsX40 : List Cond := u_ws RX4 TX4 2
theorem nmX4 : ∀ a, a < 2 → ∀ b, b < 2 → a ≠ b → (TX4 a).2.1 ≠ (TX4 b).2.1 := by decide +kernel
theorem tyX4_ok : ∀ k, k < 2 → parseFieldDescriptor (TX4 k).2.2.1 = some (tyX4 k) := by decide +kernel
abbrev cX4_init : ByteArray := prog_6_method_1_code
def yX4_init : MethodName := ⟨RX4, "<init>", "()V"⟩
abbrev cX4_follow : ByteArray := prog_6_method_2_code
def yX4_follow : MethodName := ⟨RX4, "follow", "(LPairedSteps$Listing;LPairedSteps$Listing;II)V"⟩
abbrev cX4_pairsKept : ByteArray := prog_6_method_3_code
def yX4_pairsKept : MethodName := ⟨RX4, "pairsKept", "()I"⟩
abbrev cX4_leadAt : ByteArray := prog_6_method_4_code
def yX4_leadAt : MethodName := ⟨RX4, "leadAt", "(I)I"⟩
abbrev cX4_greatestLead : ByteArray := prog_6_method_5_code
def yX4_greatestLead : MethodName := ⟨RX4, "greatestLead", "()I"⟩
abbrev cX4_lastLead : ByteArray := prog_6_method_6_code
def yX4_lastLead : MethodName := ⟨RX4, "lastLead", "()I"⟩
abbrev cX4_evenPairs : ByteArray := prog_6_method_7_code
def yX4_evenPairs : MethodName := ⟨RX4, "evenPairs", "()I"⟩
abbrev cX4_isEven : ByteArray := prog_6_method_8_code
def yX4_isEven : MethodName := ⟨RX4, "isEven", "(I)Z"⟩
abbrev cX4_cellsEqualTo : ByteArray := prog_6_method_9_code
def yX4_cellsEqualTo : MethodName := ⟨RX4, "cellsEqualTo", "(I)I"⟩
abbrev cX4_isAlwaysSame : ByteArray := prog_6_method_10_code
def yX4_isAlwaysSame : MethodName := ⟨RX4, "isAlwaysSame", "(II)Z"⟩
abbrev cX4_inAgreement : ByteArray := prog_6_method_11_code
def yX4_inAgreement : MethodName := ⟨RX4, "inAgreement", "()Z"⟩
def RX5 : String := "PairedSteps$Text"
def TX5 : u_T := fun k => match k with
  | 0 => ("PairedSteps$Text", "signs", "[C", true)
  | _ => ("PairedSteps$Text", "length", "I", false)
def tyX5 : Nat → FieldType := fun k => match k with
  | 0 => .array .char
  | _ => .int
abbrev wsX50 : List Cond := u_ws RX5 TX5 2
theorem nmX5 : ∀ a, a < 2 → ∀ b, b < 2 → a ≠ b → (TX5 a).2.1 ≠ (TX5 b).2.1 := by decide +kernel
theorem tyX5_ok : ∀ k, k < 2 → parseFieldDescriptor (TX5 k).2.2.1 = some (tyX5 k) := by decide +kernel
abbrev cX5_init : ByteArray := prog_7_method_1_code
def yX5_init : MethodName := ⟨RX5, "<init>", "()V"⟩
abbrev cX5_isFull : ByteArray := prog_7_method_2_code
def yX5_isFull : MethodName := ⟨RX5, "isFull", "()Z"⟩
abbrev cX5_add : ByteArray := prog_7_method_3_code
def yX5_add : MethodName := ⟨RX5, "add", "(C)V"⟩
abbrev cX5_signAt : ByteArray := prog_7_method_4_code
def yX5_signAt : MethodName := ⟨RX5, "signAt", "(I)I"⟩
def RX6 : String := "PairedSteps$Trace"
def TX6 : u_T := fun k => match k with
  | 0 => ("PairedSteps$Trace", "output", "LPairedSteps$Output;", true)
  | 1 => ("PairedSteps$Trace", "cells", "[I", true)
  | 2 => ("PairedSteps$Trace", "cellsAtMarks", "[I", true)
  | 3 => ("PairedSteps$Trace", "stepsAhead", "[I", true)
  | 4 => ("PairedSteps$Trace", "roundsSince", "[I", true)
  | 5 => ("PairedSteps$Trace", "steps", "I", false)
  | 6 => ("PairedSteps$Trace", "marks", "I", false)
  | 7 => ("PairedSteps$Trace", "rounds", "I", false)
  | _ => ("PairedSteps$Trace", "mostRounds", "I", false)
def tyX6 : Nat → FieldType := fun k => match k with
  | 0 => .object "PairedSteps$Output"
  | 1 => .array .int
  | 2 => .array .int
  | 3 => .array .int
  | 4 => .array .int
  | 5 => .int
  | 6 => .int
  | 7 => .int
  | _ => .int
abbrev wsX60 : List Cond := u_ws RX6 TX6 9
theorem nmX6 : ∀ a, a < 9 → ∀ b, b < 9 → a ≠ b → (TX6 a).2.1 ≠ (TX6 b).2.1 := by decide +kernel
theorem tyX6_ok : ∀ k, k < 9 → parseFieldDescriptor (TX6 k).2.2.1 = some (tyX6 k) := by decide +kernel
abbrev cX6_init : ByteArray := prog_8_method_1_code
def yX6_init : MethodName := ⟨RX6, "<init>", "()V"⟩
abbrev cX6_follow : ByteArray := prog_8_method_2_code
def yX6_follow : MethodName := ⟨RX6, "follow", "(LPairedSteps$Listing;II)V"⟩
abbrev cX6_begin : ByteArray := prog_8_method_3_code
def yX6_begin : MethodName := ⟨RX6, "begin", "(II)V"⟩
abbrev cX6_stepFrom : ByteArray := prog_8_method_4_code
def yX6_stepFrom : MethodName := ⟨RX6, "stepFrom", "(LPairedSteps$Listing;I)I"⟩
abbrev cX6_look : ByteArray := prog_8_method_5_code
def yX6_look : MethodName := ⟨RX6, "look", "(LPairedSteps$Listing;I)I"⟩
abbrev cX6_resultOf : ByteArray := prog_8_method_6_code
def yX6_resultOf : MethodName := ⟨RX6, "resultOf", "(LPairedSteps$Listing;I)I"⟩
abbrev cX6_termValue : ByteArray := prog_8_method_7_code
def yX6_termValue : MethodName := ⟨RX6, "termValue", "(I)I"⟩
abbrev cX6_nearestValue : ByteArray := prog_8_method_8_code
def yX6_nearestValue : MethodName := ⟨RX6, "nearestValue", "(I)I"⟩
abbrev cX6_setCell : ByteArray := prog_8_method_9_code
def yX6_setCell : MethodName := ⟨RX6, "setCell", "(II)V"⟩
abbrev cX6_keepMark : ByteArray := prog_8_method_10_code
def yX6_keepMark : MethodName := ⟨RX6, "keepMark", "()V"⟩
abbrev cX6_marksKept : ByteArray := prog_8_method_11_code
def yX6_marksKept : MethodName := ⟨RX6, "marksKept", "()I"⟩
abbrev cX6_valueOf : ByteArray := prog_8_method_12_code
def yX6_valueOf : MethodName := ⟨RX6, "valueOf", "(I)I"⟩
abbrev cX6_cellAtMark : ByteArray := prog_8_method_13_code
def yX6_cellAtMark : MethodName := ⟨RX6, "cellAtMark", "(II)I"⟩
abbrev cX6_stepsAheadOf : ByteArray := prog_8_method_14_code
def yX6_stepsAheadOf : MethodName := ⟨RX6, "stepsAheadOf", "(I)I"⟩
def RX7 : String := "PairedSteps"
def TX7 : u_T := fun k => match k with
  | 0 => ("PairedSteps", "text", "LPairedSteps$Text;", true)
  | 1 => ("PairedSteps", "draft", "LPairedSteps$Listing;", true)
  | 2 => ("PairedSteps", "reader", "LPairedSteps$Reader;", true)
  | 3 => ("PairedSteps", "history", "LPairedSteps$History;", true)
  | 4 => ("PairedSteps", "sides", "LPairedSteps$Sides;", true)
  | 5 => ("PairedSteps", "outputsBefore", "[LPairedSteps$Output;", true)
  | 6 => ("PairedSteps", "zeroth", "LPairedSteps$Listing;", false)
  | _ => ("PairedSteps", "other", "LPairedSteps$Listing;", false)
def tyX7 : Nat → FieldType := fun k => match k with
  | 0 => .object "PairedSteps$Text"
  | 1 => .object "PairedSteps$Listing"
  | 2 => .object "PairedSteps$Reader"
  | 3 => .object "PairedSteps$History"
  | 4 => .object "PairedSteps$Sides"
  | 5 => .array (.object "PairedSteps$Output")
  | 6 => .object "PairedSteps$Listing"
  | _ => .object "PairedSteps$Listing"
abbrev wsX70 : List Cond := u_ws RX7 TX7 8
theorem nmX7 : ∀ a, a < 8 → ∀ b, b < 8 → a ≠ b → (TX7 a).2.1 ≠ (TX7 b).2.1 := by decide +kernel
theorem tyX7_ok : ∀ k, k < 8 → parseFieldDescriptor (TX7 k).2.2.1 = some (tyX7 k) := by decide +kernel
abbrev cX7_init : ByteArray := prog_1_method_1_code
def yX7_init : MethodName := ⟨RX7, "<init>", "()V"⟩
abbrev cX7_append : ByteArray := prog_1_method_2_code
def yX7_append : MethodName := ⟨RX7, "append", "(I)I"⟩
abbrev cX7_clearText : ByteArray := prog_1_method_3_code
def yX7_clearText : MethodName := ⟨RX7, "clearText", "()I"⟩
abbrev cX7_read : ByteArray := prog_1_method_4_code
def yX7_read : MethodName := ⟨RX7, "read", "(I)I"⟩
abbrev cX7_copy : ByteArray := prog_1_method_5_code
def yX7_copy : MethodName := ⟨RX7, "copy", "()I"⟩
abbrev cX7_exchange : ByteArray := prog_1_method_6_code
def yX7_exchange : MethodName := ⟨RX7, "exchange", "()I"⟩
abbrev cX7_cut : ByteArray := prog_1_method_7_code
def yX7_cut : MethodName := ⟨RX7, "cut", "(II)I"⟩
abbrev cX7_undo : ByteArray := prog_1_method_8_code
def yX7_undo : MethodName := ⟨RX7, "undo", "()I"⟩
abbrev cX7_count : ByteArray := prog_1_method_9_code
def yX7_count : MethodName := ⟨RX7, "count", "(I)I"⟩
abbrev cX7_program : ByteArray := prog_1_method_10_code
def yX7_program : MethodName := ⟨RX7, "program", "(II)I"⟩
abbrev cX7_run : ByteArray := prog_1_method_11_code
def yX7_run : MethodName := ⟨RX7, "run", "(IIII)I"⟩
abbrev cX7_told : ByteArray := prog_1_method_12_code
def yX7_told : MethodName := ⟨RX7, "told", "(IIII)I"⟩
abbrev cX7_cell : ByteArray := prog_1_method_13_code
def yX7_cell : MethodName := ⟨RX7, "cell", "(IIIII)I"⟩
abbrev cX7_pairs : ByteArray := prog_1_method_14_code
def yX7_pairs : MethodName := ⟨RX7, "pairs", "(III)I"⟩
abbrev cX7_equal : ByteArray := prog_1_method_15_code
def yX7_equal : MethodName := ⟨RX7, "equal", "(III)I"⟩
abbrev cX7_difference : ByteArray := prog_1_method_16_code
def yX7_difference : MethodName := ⟨RX7, "difference", "(II)I"⟩
abbrev cX7_agree : ByteArray := prog_1_method_17_code
def yX7_agree : MethodName := ⟨RX7, "agree", "(III)I"⟩
abbrev cX7_always : ByteArray := prog_1_method_18_code
def yX7_always : MethodName := ⟨RX7, "always", "(I)I"⟩
abbrev cX7_idle : ByteArray := prog_1_method_19_code
def yX7_idle : MethodName := ⟨RX7, "idle", "(I)I"⟩
abbrev cX7_keepOutputsOf : ByteArray := prog_1_method_20_code
def yX7_keepOutputsOf : MethodName := ⟨RX7, "keepOutputsOf", "(LPairedSteps$Listing;)V"⟩
abbrev cX7_putsOutAsBefore : ByteArray := prog_1_method_21_code
def yX7_putsOutAsBefore : MethodName := ⟨RX7, "putsOutAsBefore", "(LPairedSteps$Listing;)Z"⟩
abbrev cX7_listingOf : ByteArray := prog_1_method_22_code
def yX7_listingOf : MethodName := ⟨RX7, "listingOf", "(I)LPairedSteps$Listing;"⟩
abbrev cX7_traceOf : ByteArray := prog_1_method_23_code
def yX7_traceOf : MethodName := ⟨RX7, "traceOf", "(III)LPairedSteps$Trace;"⟩
abbrev cX7_triedFirst : ByteArray := prog_1_method_24_code
def yX7_triedFirst : MethodName := ⟨RX7, "triedFirst", "(I)I"⟩
abbrev cX7_triedSecond : ByteArray := prog_1_method_25_code
def yX7_triedSecond : MethodName := ⟨RX7, "triedSecond", "(I)I"⟩
abbrev cX7_isWithin : ByteArray := prog_1_method_26_code
def yX7_isWithin : MethodName := ⟨RX7, "isWithin", "(III)Z"⟩
abbrev cX7_isProgram : ByteArray := prog_1_method_27_code
def yX7_isProgram : MethodName := ⟨RX7, "isProgram", "(I)Z"⟩
abbrev cX7_isCell : ByteArray := prog_1_method_28_code
def yX7_isCell : MethodName := ⟨RX7, "isCell", "(I)Z"⟩
abbrev cX7_isInput : ByteArray := prog_1_method_29_code
def yX7_isInput : MethodName := ⟨RX7, "isInput", "(II)Z"⟩
def RX8 : String := "PairedStepsModel"
def TX8 : u_T := fun k => match k with
  | 0 => ("PairedStepsModel", "now", "[I", true)
  | 1 => ("PairedStepsModel", "past", "[I", true)
  | 2 => ("PairedStepsModel", "saved", "I", false)
  | 3 => ("PairedStepsModel", "text", "[I", true)
  | 4 => ("PairedStepsModel", "length", "I", false)
  | 5 => ("PairedStepsModel", "code", "[I", true)
  | 6 => ("PairedStepsModel", "at", "I", false)
  | 7 => ("PairedStepsModel", "open", "[I", true)
  | 8 => ("PairedStepsModel", "phase", "[I", true)
  | 9 => ("PairedStepsModel", "cells", "[I", true)
  | 10 => ("PairedStepsModel", "tells", "[I", true)
  | 11 => ("PairedStepsModel", "markSteps", "[I", true)
  | 12 => ("PairedStepsModel", "markCells", "[I", true)
  | 13 => ("PairedStepsModel", "numbers", "[I", true)
  | 14 => ("PairedStepsModel", "into", "[I", true)
  | 15 => ("PairedStepsModel", "until", "[I", true)
  | 16 => ("PairedStepsModel", "rounds", "[I", true)
  | 17 => ("PairedStepsModel", "before", "[I", true)
  | 18 => ("PairedStepsModel", "beforeMany", "[I", true)
  | _ => ("PairedStepsModel", "beforeCut", "[I", true)
def tyX8 : Nat → FieldType := fun k => match k with
  | 0 => .array .int
  | 1 => .array .int
  | 2 => .int
  | 3 => .array .int
  | 4 => .int
  | 5 => .array .int
  | 6 => .int
  | 7 => .array .int
  | 8 => .array .int
  | 9 => .array .int
  | 10 => .array .int
  | 11 => .array .int
  | 12 => .array .int
  | 13 => .array .int
  | 14 => .array .int
  | 15 => .array .int
  | 16 => .array .int
  | 17 => .array .int
  | 18 => .array .int
  | _ => .array .int
abbrev wsX80 : List Cond := u_ws RX8 TX8 20
theorem nmX8 : ∀ a, a < 20 → ∀ b, b < 20 → a ≠ b → (TX8 a).2.1 ≠ (TX8 b).2.1 := by decide +kernel
theorem tyX8_ok : ∀ k, k < 20 → parseFieldDescriptor (TX8 k).2.2.1 = some (tyX8 k) := by decide +kernel
abbrev cX8_init : ByteArray := prog_10_method_1_code
def yX8_init : MethodName := ⟨RX8, "<init>", "()V"⟩
abbrev cX8_within : ByteArray := prog_10_method_2_code
def yX8_within : MethodName := ⟨RX8, "within", "(III)Z"⟩
abbrev cX8_isProgram : ByteArray := prog_10_method_3_code
def yX8_isProgram : MethodName := ⟨RX8, "isProgram", "(I)Z"⟩
abbrev cX8_isInput : ByteArray := prog_10_method_4_code
def yX8_isInput : MethodName := ⟨RX8, "isInput", "(II)Z"⟩
abbrev cX8_isCell : ByteArray := prog_10_method_5_code
def yX8_isCell : MethodName := ⟨RX8, "isCell", "(I)Z"⟩
abbrev cX8_saves : ByteArray := prog_10_method_6_code
def yX8_saves : MethodName := ⟨RX8, "saves", "()V"⟩
abbrev cX8_undo : ByteArray := prog_10_method_7_code
def yX8_undo : MethodName := ⟨RX8, "undo", "()I"⟩
abbrev cX8_takes : ByteArray := prog_10_method_8_code
def yX8_takes : MethodName := ⟨RX8, "takes", "(I)V"⟩
abbrev cX8_lays : ByteArray := prog_10_method_9_code
def yX8_lays : MethodName := ⟨RX8, "lays", "(I)V"⟩
abbrev cX8_of : ByteArray := prog_10_method_10_code
def yX8_of : MethodName := ⟨RX8, "of", "(II)I"⟩
abbrev cX8_put : ByteArray := prog_10_method_11_code
def yX8_put : MethodName := ⟨RX8, "put", "(III)V"⟩
abbrev cX8_append : ByteArray := prog_10_method_12_code
def yX8_append : MethodName := ⟨RX8, "append", "(I)I"⟩
abbrev cX8_clearText : ByteArray := prog_10_method_13_code
def yX8_clearText : MethodName := ⟨RX8, "clearText", "()I"⟩
abbrev cX8_here : ByteArray := prog_10_method_14_code
def yX8_here : MethodName := ⟨RX8, "here", "()I"⟩
abbrev cX8_passes : ByteArray := prog_10_method_15_code
def yX8_passes : MethodName := ⟨RX8, "passes", "(I)Z"⟩
abbrev cX8_isLetter : ByteArray := prog_10_method_16_code
def yX8_isLetter : MethodName := ⟨RX8, "isLetter", "(I)Z"⟩
abbrev cX8_readsCell : ByteArray := prog_10_method_17_code
def yX8_readsCell : MethodName := ⟨RX8, "readsCell", "(I)Z"⟩
abbrev cX8_readsTerm : ByteArray := prog_10_method_18_code
def yX8_readsTerm : MethodName := ⟨RX8, "readsTerm", "(II)Z"⟩
abbrev cX8_readsSetting : ByteArray := prog_10_method_19_code
def yX8_readsSetting : MethodName := ⟨RX8, "readsSetting", "(I)Z"⟩
abbrev cX8_kindOf : ByteArray := prog_10_method_20_code
def yX8_kindOf : MethodName := ⟨RX8, "kindOf", "(I)I"⟩
abbrev cX8_readsStatement : ByteArray := prog_10_method_21_code
def yX8_readsStatement : MethodName := ⟨RX8, "readsStatement", "(II)Z"⟩
abbrev cX8_readsAll : ByteArray := prog_10_method_22_code
def yX8_readsAll : MethodName := ⟨RX8, "readsAll", "()Z"⟩
abbrev cX8_read : ByteArray := prog_10_method_23_code
def yX8_read : MethodName := ⟨RX8, "read", "(I)I"⟩
abbrev cX8_copy : ByteArray := prog_10_method_24_code
def yX8_copy : MethodName := ⟨RX8, "copy", "()I"⟩
abbrev cX8_exchange : ByteArray := prog_10_method_25_code
def yX8_exchange : MethodName := ⟨RX8, "exchange", "()I"⟩
abbrev cX8_sizeOf : ByteArray := prog_10_method_26_code
def yX8_sizeOf : MethodName := ⟨RX8, "sizeOf", "(I)I"⟩
abbrev cX8_cuts : ByteArray := prog_10_method_27_code
def yX8_cuts : MethodName := ⟨RX8, "cuts", "(I)V"⟩
abbrev cX8_isStatement : ByteArray := prog_10_method_28_code
def yX8_isStatement : MethodName := ⟨RX8, "isStatement", "(II)Z"⟩
abbrev cX8_cut : ByteArray := prog_10_method_29_code
def yX8_cut : MethodName := ⟨RX8, "cut", "(II)I"⟩
abbrev cX8_count : ByteArray := prog_10_method_30_code
def yX8_count : MethodName := ⟨RX8, "count", "(I)I"⟩
abbrev cX8_ofKind : ByteArray := prog_10_method_31_code
def yX8_ofKind : MethodName := ⟨RX8, "ofKind", "(I)I"⟩
abbrev cX8_depthAll : ByteArray := prog_10_method_32_code
def yX8_depthAll : MethodName := ⟨RX8, "depthAll", "()I"⟩
abbrev cX8_canSet : ByteArray := prog_10_method_33_code
def yX8_canSet : MethodName := ⟨RX8, "canSet", "()I"⟩
abbrev cX8_program : ByteArray := prog_10_method_34_code
def yX8_program : MethodName := ⟨RX8, "program", "(II)I"⟩
abbrev cX8_term : ByteArray := prog_10_method_35_code
def yX8_term : MethodName := ⟨RX8, "term", "(II)I"⟩
abbrev cX8_held : ByteArray := prog_10_method_36_code
def yX8_held : MethodName := ⟨RX8, "held", "(I)I"⟩
abbrev cX8_sets : ByteArray := prog_10_method_37_code
def yX8_sets : MethodName := ⟨RX8, "sets", "(II)V"⟩
abbrev cX8_tellsCell : ByteArray := prog_10_method_38_code
def yX8_tellsCell : MethodName := ⟨RX8, "tellsCell", "(II)V"⟩
abbrev cX8_marks : ByteArray := prog_10_method_39_code
def yX8_marks : MethodName := ⟨RX8, "marks", "(I)V"⟩
abbrev cX8_roundOf : ByteArray := prog_10_method_40_code
def yX8_roundOf : MethodName := ⟨RX8, "roundOf", "(II)V"⟩
abbrev cX8_runs : ByteArray := prog_10_method_41_code
def yX8_runs : MethodName := ⟨RX8, "runs", "(III)V"⟩
abbrev cX8_does : ByteArray := prog_10_method_42_code
def yX8_does : MethodName := ⟨RX8, "does", "(III)V"⟩
abbrev cX8_runsOne : ByteArray := prog_10_method_43_code
def yX8_runsOne : MethodName := ⟨RX8, "runsOne", "(III)V"⟩
abbrev cX8_least : ByteArray := prog_10_method_44_code
def yX8_least : MethodName := ⟨RX8, "least", "(II)I"⟩
abbrev cX8_run : ByteArray := prog_10_method_45_code
def yX8_run : MethodName := ⟨RX8, "run", "(IIII)I"⟩
abbrev cX8_told : ByteArray := prog_10_method_46_code
def yX8_told : MethodName := ⟨RX8, "told", "(IIII)I"⟩
abbrev cX8_cell : ByteArray := prog_10_method_47_code
def yX8_cell : MethodName := ⟨RX8, "cell", "(IIIII)I"⟩
abbrev cX8_runsBoth : ByteArray := prog_10_method_48_code
def yX8_runsBoth : MethodName := ⟨RX8, "runsBoth", "(II)V"⟩
abbrev cX8_pairMany : ByteArray := prog_10_method_49_code
def yX8_pairMany : MethodName := ⟨RX8, "pairMany", "()I"⟩
abbrev cX8_leadOf : ByteArray := prog_10_method_50_code
def yX8_leadOf : MethodName := ⟨RX8, "leadOf", "(I)I"⟩
abbrev cX8_greatestLead : ByteArray := prog_10_method_51_code
def yX8_greatestLead : MethodName := ⟨RX8, "greatestLead", "()I"⟩
abbrev cX8_isEqual : ByteArray := prog_10_method_52_code
def yX8_isEqual : MethodName := ⟨RX8, "isEqual", "(III)Z"⟩
abbrev cX8_allEqual : ByteArray := prog_10_method_53_code
def yX8_allEqual : MethodName := ⟨RX8, "allEqual", "()I"⟩
abbrev cX8_pairs : ByteArray := prog_10_method_54_code
def yX8_pairs : MethodName := ⟨RX8, "pairs", "(III)I"⟩
abbrev cX8_equalTo : ByteArray := prog_10_method_55_code
def yX8_equalTo : MethodName := ⟨RX8, "equalTo", "(I)I"⟩
abbrev cX8_equal : ByteArray := prog_10_method_56_code
def yX8_equal : MethodName := ⟨RX8, "equal", "(III)I"⟩
abbrev cX8_firstDifference : ByteArray := prog_10_method_57_code
def yX8_firstDifference : MethodName := ⟨RX8, "firstDifference", "()I"⟩
abbrev cX8_difference : ByteArray := prog_10_method_58_code
def yX8_difference : MethodName := ⟨RX8, "difference", "(II)I"⟩
abbrev cX8_agreeOn : ByteArray := prog_10_method_59_code
def yX8_agreeOn : MethodName := ⟨RX8, "agreeOn", "(II)Z"⟩
abbrev cX8_agree : ByteArray := prog_10_method_60_code
def yX8_agree : MethodName := ⟨RX8, "agree", "(III)I"⟩
abbrev cX8_always : ByteArray := prog_10_method_61_code
def yX8_always : MethodName := ⟨RX8, "always", "(I)I"⟩
abbrev cX8_keeps : ByteArray := prog_10_method_62_code
def yX8_keeps : MethodName := ⟨RX8, "keeps", "(I)V"⟩
abbrev cX8_isIdle : ByteArray := prog_10_method_63_code
def yX8_isIdle : MethodName := ⟨RX8, "isIdle", "(II)Z"⟩
abbrev cX8_idle : ByteArray := prog_10_method_64_code
def yX8_idle : MethodName := ⟨RX8, "idle", "(I)I"⟩
def RL : String := "PairedStepsLaw"
abbrev cL_law : ByteArray := code
def yL_law : MethodName := ⟨RL, "law", "([I)Z"⟩
abbrev vwCl : List vw_C := [(RX0, TX0, 3), (RX1, TX1, 10), (RX2, TX2, 3), (RX3, TX3, 6), (RX4, TX4, 2), (RX5, TX5, 2), (RX6, TX6, 9), (RX7, TX7, 8), (RX8, TX8, 20)]
end
section
def xNestB (w : Cond) : Bool := match w with | .fieldLinkNest .. => true | .methodLinkNest .. => true | _ => false
def xWB (w : Cond) : Bool := w.onTables && (goodWord w || xNestB w)
/-- the words of the tables that stay true: all that any method needs -/
def xWs : List Cond := lw_tbl.filter xWB
theorem xin {i : Nat} {w : Cond} (h : lw_tbl[i]? = some w) (hb : xWB w = true) : w ∈ xWs := List.mem_filter.mpr ⟨List.mem_of_getElem? h, hb⟩
theorem xinL {ws : List Cond} (ps : List Nat) (hp : ws = ps.filterMap (fun i => lw_tbl[i]?)) (h : ws.all xWB = true) : ∀ w ∈ ws, w ∈ xWs := by
  intro w hw
  have h1 := List.all_eq_true.mp h w hw
  rw [hp] at hw
  obtain ⟨i, -, hi⟩ := List.mem_filterMap.mp hw
  exact List.mem_filter.mpr ⟨List.mem_of_getElem? hi, h1⟩
def xNest : List Cond := [.methodLinkNest "PairedSteps" 11 ⟨"PairedSteps$Text", "<init>", "()V"⟩ "PairedSteps", .fieldLinkNest "PairedSteps" 71 "PairedSteps$Text" "length" "I" "PairedSteps", .methodLinkNest "PairedSteps" 18 ⟨"PairedSteps$Listing", "<init>", "()V"⟩ "PairedSteps", .fieldLinkNest "PairedSteps$Reader" 26 "PairedSteps$Listing" "size" "I" "PairedSteps", .fieldLinkNest "PairedSteps" 97 "PairedSteps$Listing" "size" "I" "PairedSteps", .fieldLinkNest "PairedSteps" 82 "PairedSteps$Reader" "place" "I" "PairedSteps", .methodLinkNest "PairedSteps$History" 20 ⟨"PairedSteps$Listing", "<init>", "()V"⟩ "PairedSteps", .fieldLinkNest "PairedSteps" 107 "PairedSteps$History" "size" "I" "PairedSteps", .methodLinkNest "PairedSteps" 41 ⟨"PairedSteps$Sides", "<init>", "()V"⟩ "PairedSteps", .methodLinkNest "PairedSteps$Sides" 11 ⟨"PairedSteps$Trace", "<init>", "()V"⟩ "PairedSteps", .methodLinkNest "PairedSteps$Trace" 11 ⟨"PairedSteps$Output", "<init>", "()V"⟩ "PairedSteps", .fieldLinkNest "PairedSteps" 143 "PairedSteps$Output" "total" "I" "PairedSteps", .fieldLinkNest "PairedSteps$Trace" 49 "PairedSteps$Output" "cutOff" "Z" "PairedSteps", .fieldLinkNest "PairedSteps$Sides" 66 "PairedSteps$Output" "cutOff" "Z" "PairedSteps", .fieldLinkNest "PairedSteps" 139 "PairedSteps$Output" "cutOff" "Z" "PairedSteps", .fieldLinkNest "PairedSteps$Sides" 62 "PairedSteps$Trace" "output" "LPairedSteps$Output;" "PairedSteps", .fieldLinkNest "PairedSteps" 135 "PairedSteps$Trace" "output" "LPairedSteps$Output;" "PairedSteps", .fieldLinkNest "PairedSteps" 130 "PairedSteps$Trace" "steps" "I" "PairedSteps", .fieldLinkNest "PairedSteps" 146 "PairedSteps$Trace" "marks" "I" "PairedSteps", .fieldLinkNest "PairedSteps" 149 "PairedSteps$Trace" "rounds" "I" "PairedSteps", .fieldLinkNest "PairedSteps" 152 "PairedSteps$Trace" "mostRounds" "I" "PairedSteps", .fieldLinkNest "PairedSteps" 187 "PairedSteps$Sides" "zeroth" "LPairedSteps$Trace;" "PairedSteps", .fieldLinkNest "PairedSteps" 190 "PairedSteps$Sides" "other" "LPairedSteps$Trace;" "PairedSteps", .methodLinkNest "PairedSteps" 52 ⟨"PairedSteps$Output", "<init>", "()V"⟩ "PairedSteps", .methodLinkNest "PairedSteps$Text" 19 ⟨"PairedSteps", "isWithin", "(III)Z"⟩ "PairedSteps", .methodLinkNest "PairedSteps$Reader" 93 ⟨"PairedSteps", "isWithin", "(III)Z"⟩ "PairedSteps", .methodLinkNest "PairedSteps$Reader" 108 ⟨"PairedSteps", "isCell", "(I)Z"⟩ "PairedSteps", .methodLinkNest "PairedSteps$Listing" 49 ⟨"PairedSteps", "isWithin", "(III)Z"⟩ "PairedSteps", .methodLinkNest "PairedSteps$History" 28 ⟨"PairedSteps", "isWithin", "(III)Z"⟩ "PairedSteps", .methodLinkNest "PairedSteps$Trace" 127 ⟨"PairedSteps", "isCell", "(I)Z"⟩ "PairedSteps", .methodLinkNest "PairedSteps$Output" 19 ⟨"PairedSteps", "isWithin", "(III)Z"⟩ "PairedSteps", .methodLinkNest "PairedSteps$Trace" 99 ⟨"PairedSteps", "isWithin", "(III)Z"⟩ "PairedSteps"]
theorem kc_L_7 : Cond.classLink RL 7 RX7 ∈ xWs := xin (i := 81) (by decide +kernel) (by decide +kernel)
theorem kp_inst_RX7 : Cond.instantiable RX7 8 ∈ xWs := xin (i := 82) (by decide +kernel) (by decide +kernel)
theorem kp_init_RX7 : Cond.initialized RX7 ∈ xWs := xin (i := 70) (by decide +kernel) (by decide +kernel)
theorem kc_L_10 : Cond.classLink RL 10 RX8 ∈ xWs := xin (i := 738) (by decide +kernel) (by decide +kernel)
theorem kp_inst_RX8 : Cond.instantiable RX8 20 ∈ xWs := xin (i := 739) (by decide +kernel) (by decide +kernel)
theorem kp_init_RX8 : Cond.initialized RX8 ∈ xWs := xin (i := 78) (by decide +kernel) (by decide +kernel)
theorem km_L_9 : Cond.methodLink RL 9 yX7_init ∈ xWs := xin (i := 83) (by decide +kernel) (by decide +kernel)
theorem kp_instanceMethod_yX7_init : Cond.instanceMethod yX7_init ∈ xWs := xin (i := 84) (by decide +kernel) (by decide +kernel)
theorem kp_code_yX7_init : Cond.code yX7_init cX7_init 2 none ∈ xWs := xin (i := 85) (by decide +kernel) (by decide +kernel)
theorem km_X7_3 : Cond.methodLink RX7 3 objectInit ∈ xWs := xin (i := 86) (by decide +kernel) (by decide +kernel)
theorem kp_instanceMethod_objectInit : Cond.instanceMethod objectInit ∈ xWs := xin (i := 87) (by decide +kernel) (by decide +kernel)
theorem kp_code_objectInit : Cond.code objectInit ⟨#[0xb1]⟩ 1 none ∈ xWs := xin (i := 88) (by decide +kernel) (by decide +kernel)
theorem kc_X7_9 : Cond.classLink RX7 9 RX5 ∈ xWs := xin (i := 89) (by decide +kernel) (by decide +kernel)
theorem kp_inst_RX5 : Cond.instantiable RX5 2 ∈ xWs := xin (i := 90) (by decide +kernel) (by decide +kernel)
theorem kp_init_RX5 : Cond.initialized RX5 ∈ xWs := xin (i := 71) (by decide +kernel) (by decide +kernel)
theorem kf_X7_12 : Cond.fieldLink RX7 12 "PairedSteps" "text" "LPairedSteps$Text;" ∈ xWs := xin (i := 268) (by decide +kernel) (by decide +kernel)
theorem kc_X7_16 : Cond.classLink RX7 16 RX1 ∈ xWs := xin (i := 104) (by decide +kernel) (by decide +kernel)
theorem kp_inst_RX1 : Cond.instantiable RX1 10 ∈ xWs := xin (i := 105) (by decide +kernel) (by decide +kernel)
theorem kp_init_RX1 : Cond.initialized RX1 ∈ xWs := xin (i := 72) (by decide +kernel) (by decide +kernel)
theorem kf_X7_19 : Cond.fieldLink RX7 19 "PairedSteps" "draft" "LPairedSteps$Listing;" ∈ xWs := xin (i := 269) (by decide +kernel) (by decide +kernel)
theorem kc_X7_23 : Cond.classLink RX7 23 RX3 ∈ xWs := xin (i := 144) (by decide +kernel) (by decide +kernel)
theorem kp_inst_RX3 : Cond.instantiable RX3 6 ∈ xWs := xin (i := 145) (by decide +kernel) (by decide +kernel)
theorem kp_init_RX3 : Cond.initialized RX3 ∈ xWs := xin (i := 73) (by decide +kernel) (by decide +kernel)
theorem kf_X7_28 : Cond.fieldLink RX7 28 "PairedSteps" "reader" "LPairedSteps$Reader;" ∈ xWs := xin (i := 270) (by decide +kernel) (by decide +kernel)
theorem kc_X7_32 : Cond.classLink RX7 32 RX0 ∈ xWs := xin (i := 170) (by decide +kernel) (by decide +kernel)
theorem kp_inst_RX0 : Cond.instantiable RX0 3 ∈ xWs := xin (i := 171) (by decide +kernel) (by decide +kernel)
theorem kp_init_RX0 : Cond.initialized RX0 ∈ xWs := xin (i := 74) (by decide +kernel) (by decide +kernel)
theorem kf_X7_35 : Cond.fieldLink RX7 35 "PairedSteps" "history" "LPairedSteps$History;" ∈ xWs := xin (i := 271) (by decide +kernel) (by decide +kernel)
theorem kc_X7_39 : Cond.classLink RX7 39 RX4 ∈ xWs := xin (i := 190) (by decide +kernel) (by decide +kernel)
theorem kp_inst_RX4 : Cond.instantiable RX4 2 ∈ xWs := xin (i := 191) (by decide +kernel) (by decide +kernel)
theorem kp_init_RX4 : Cond.initialized RX4 ∈ xWs := xin (i := 75) (by decide +kernel) (by decide +kernel)
theorem kf_X7_42 : Cond.fieldLink RX7 42 "PairedSteps" "sides" "LPairedSteps$Sides;" ∈ xWs := xin (i := 272) (by decide +kernel) (by decide +kernel)
theorem kc_X7_46 : Cond.classLink RX7 46 RX2 ∈ xWs := xin (i := 265) (by decide +kernel) (by decide +kernel)
theorem kf_X7_48 : Cond.fieldLink RX7 48 "PairedSteps" "outputsBefore" "[LPairedSteps$Output;" ∈ xWs := xin (i := 273) (by decide +kernel) (by decide +kernel)
theorem kp_inst_RX2 : Cond.instantiable RX2 3 ∈ xWs := xin (i := 203) (by decide +kernel) (by decide +kernel)
theorem kp_init_RX2 : Cond.initialized RX2 ∈ xWs := xin (i := 77) (by decide +kernel) (by decide +kernel)
theorem kf_X7_53 : Cond.fieldLink RX7 53 "PairedSteps" "zeroth" "LPairedSteps$Listing;" ∈ xWs := xin (i := 274) (by decide +kernel) (by decide +kernel)
theorem kf_X7_56 : Cond.fieldLink RX7 56 "PairedSteps" "other" "LPairedSteps$Listing;" ∈ xWs := xin (i := 275) (by decide +kernel) (by decide +kernel)
theorem kp_instanceMethod_yX5_init : Cond.instanceMethod yX5_init ∈ xWs := xin (i := 92) (by decide +kernel) (by decide +kernel)
theorem kp_code_yX5_init : Cond.code yX5_init cX5_init 1 none ∈ xWs := xin (i := 93) (by decide +kernel) (by decide +kernel)
theorem km_X5_3 : Cond.methodLink RX5 3 objectInit ∈ xWs := xin (i := 94) (by decide +kernel) (by decide +kernel)
theorem kf_X5_9 : Cond.fieldLink RX5 9 "PairedSteps$Text" "signs" "[C" ∈ xWs := xin (i := 95) (by decide +kernel) (by decide +kernel)
theorem kp_instanceMethod_yX1_init : Cond.instanceMethod yX1_init ∈ xWs := xin (i := 107) (by decide +kernel) (by decide +kernel)
theorem kp_code_yX1_init : Cond.code yX1_init cX1_init 1 none ∈ xWs := xin (i := 108) (by decide +kernel) (by decide +kernel)
theorem km_X1_3 : Cond.methodLink RX1 3 objectInit ∈ xWs := xin (i := 109) (by decide +kernel) (by decide +kernel)
theorem kf_X1_9 : Cond.fieldLink RX1 9 "PairedSteps$Listing" "kinds" "[I" ∈ xWs := xin (i := 113) (by decide +kernel) (by decide +kernel)
theorem kf_X1_15 : Cond.fieldLink RX1 15 "PairedSteps$Listing" "targets" "[I" ∈ xWs := xin (i := 114) (by decide +kernel) (by decide +kernel)
theorem kf_X1_18 : Cond.fieldLink RX1 18 "PairedSteps$Listing" "lefts" "[I" ∈ xWs := xin (i := 115) (by decide +kernel) (by decide +kernel)
theorem kf_X1_21 : Cond.fieldLink RX1 21 "PairedSteps$Listing" "operators" "[I" ∈ xWs := xin (i := 116) (by decide +kernel) (by decide +kernel)
theorem kf_X1_24 : Cond.fieldLink RX1 24 "PairedSteps$Listing" "rights" "[I" ∈ xWs := xin (i := 117) (by decide +kernel) (by decide +kernel)
theorem kf_X1_27 : Cond.fieldLink RX1 27 "PairedSteps$Listing" "outers" "[I" ∈ xWs := xin (i := 118) (by decide +kernel) (by decide +kernel)
theorem kf_X1_30 : Cond.fieldLink RX1 30 "PairedSteps$Listing" "middles" "[I" ∈ xWs := xin (i := 119) (by decide +kernel) (by decide +kernel)
theorem kf_X1_33 : Cond.fieldLink RX1 33 "PairedSteps$Listing" "ends" "[I" ∈ xWs := xin (i := 120) (by decide +kernel) (by decide +kernel)
theorem kf_X1_36 : Cond.fieldLink RX1 36 "PairedSteps$Listing" "followers" "[I" ∈ xWs := xin (i := 121) (by decide +kernel) (by decide +kernel)
theorem km_X7_25 : Cond.methodLink RX7 25 yX3_init ∈ xWs := xin (i := 146) (by decide +kernel) (by decide +kernel)
theorem kp_instanceMethod_yX3_init : Cond.instanceMethod yX3_init ∈ xWs := xin (i := 147) (by decide +kernel) (by decide +kernel)
theorem kp_code_yX3_init : Cond.code yX3_init cX3_init 3 none ∈ xWs := xin (i := 148) (by decide +kernel) (by decide +kernel)
theorem km_X3_3 : Cond.methodLink RX3 3 objectInit ∈ xWs := xin (i := 149) (by decide +kernel) (by decide +kernel)
theorem kf_X3_9 : Cond.fieldLink RX3 9 "PairedSteps$Reader" "opened" "[I" ∈ xWs := xin (i := 152) (by decide +kernel) (by decide +kernel)
theorem kf_X3_15 : Cond.fieldLink RX3 15 "PairedSteps$Reader" "awaited" "[I" ∈ xWs := xin (i := 153) (by decide +kernel) (by decide +kernel)
theorem kf_X3_18 : Cond.fieldLink RX3 18 "PairedSteps$Reader" "text" "LPairedSteps$Text;" ∈ xWs := xin (i := 150) (by decide +kernel) (by decide +kernel)
theorem kf_X3_22 : Cond.fieldLink RX3 22 "PairedSteps$Reader" "draft" "LPairedSteps$Listing;" ∈ xWs := xin (i := 151) (by decide +kernel) (by decide +kernel)
theorem km_X7_34 : Cond.methodLink RX7 34 yX0_init ∈ xWs := xin (i := 172) (by decide +kernel) (by decide +kernel)
theorem kp_instanceMethod_yX0_init : Cond.instanceMethod yX0_init ∈ xWs := xin (i := 173) (by decide +kernel) (by decide +kernel)
theorem kp_code_yX0_init : Cond.code yX0_init cX0_init 2 none ∈ xWs := xin (i := 174) (by decide +kernel) (by decide +kernel)
theorem km_X0_3 : Cond.methodLink RX0 3 objectInit ∈ xWs := xin (i := 175) (by decide +kernel) (by decide +kernel)
theorem kc_X0_9 : Cond.classLink RX0 9 RX1 ∈ xWs := xin (i := 176) (by decide +kernel) (by decide +kernel)
theorem kf_X0_11 : Cond.fieldLink RX0 11 "PairedSteps$History" "zeroths" "[LPairedSteps$Listing;" ∈ xWs := xin (i := 179) (by decide +kernel) (by decide +kernel)
theorem kf_X0_17 : Cond.fieldLink RX0 17 "PairedSteps$History" "others" "[LPairedSteps$Listing;" ∈ xWs := xin (i := 180) (by decide +kernel) (by decide +kernel)
theorem kp_instanceMethod_yX4_init : Cond.instanceMethod yX4_init ∈ xWs := xin (i := 193) (by decide +kernel) (by decide +kernel)
theorem kp_code_yX4_init : Cond.code yX4_init cX4_init 1 none ∈ xWs := xin (i := 194) (by decide +kernel) (by decide +kernel)
theorem km_X4_3 : Cond.methodLink RX4 3 objectInit ∈ xWs := xin (i := 195) (by decide +kernel) (by decide +kernel)
theorem kc_X4_9 : Cond.classLink RX4 9 RX6 ∈ xWs := xin (i := 196) (by decide +kernel) (by decide +kernel)
theorem kp_inst_RX6 : Cond.instantiable RX6 9 ∈ xWs := xin (i := 197) (by decide +kernel) (by decide +kernel)
theorem kp_init_RX6 : Cond.initialized RX6 ∈ xWs := xin (i := 76) (by decide +kernel) (by decide +kernel)
theorem kf_X4_12 : Cond.fieldLink RX4 12 "PairedSteps$Sides" "zeroth" "LPairedSteps$Trace;" ∈ xWs := xin (i := 256) (by decide +kernel) (by decide +kernel)
theorem kf_X4_18 : Cond.fieldLink RX4 18 "PairedSteps$Sides" "other" "LPairedSteps$Trace;" ∈ xWs := xin (i := 258) (by decide +kernel) (by decide +kernel)
theorem kp_instanceMethod_yX6_init : Cond.instanceMethod yX6_init ∈ xWs := xin (i := 199) (by decide +kernel) (by decide +kernel)
theorem kp_code_yX6_init : Cond.code yX6_init cX6_init 1 none ∈ xWs := xin (i := 200) (by decide +kernel) (by decide +kernel)
theorem km_X6_3 : Cond.methodLink RX6 3 objectInit ∈ xWs := xin (i := 201) (by decide +kernel) (by decide +kernel)
theorem kc_X6_9 : Cond.classLink RX6 9 RX2 ∈ xWs := xin (i := 202) (by decide +kernel) (by decide +kernel)
theorem kf_X6_12 : Cond.fieldLink RX6 12 "PairedSteps$Trace" "output" "LPairedSteps$Output;" ∈ xWs := xin (i := 222) (by decide +kernel) (by decide +kernel)
theorem kf_X6_18 : Cond.fieldLink RX6 18 "PairedSteps$Trace" "cells" "[I" ∈ xWs := xin (i := 225) (by decide +kernel) (by decide +kernel)
theorem kf_X6_22 : Cond.fieldLink RX6 22 "PairedSteps$Trace" "cellsAtMarks" "[I" ∈ xWs := xin (i := 226) (by decide +kernel) (by decide +kernel)
theorem kf_X6_25 : Cond.fieldLink RX6 25 "PairedSteps$Trace" "stepsAhead" "[I" ∈ xWs := xin (i := 227) (by decide +kernel) (by decide +kernel)
theorem kf_X6_28 : Cond.fieldLink RX6 28 "PairedSteps$Trace" "roundsSince" "[I" ∈ xWs := xin (i := 228) (by decide +kernel) (by decide +kernel)
theorem kp_instanceMethod_yX2_init : Cond.instanceMethod yX2_init ∈ xWs := xin (i := 205) (by decide +kernel) (by decide +kernel)
theorem kp_code_yX2_init : Cond.code yX2_init cX2_init 1 none ∈ xWs := xin (i := 206) (by decide +kernel) (by decide +kernel)
theorem km_X2_3 : Cond.methodLink RX2 3 objectInit ∈ xWs := xin (i := 207) (by decide +kernel) (by decide +kernel)
theorem kf_X2_9 : Cond.fieldLink RX2 9 "PairedSteps$Output" "values" "[I" ∈ xWs := xin (i := 208) (by decide +kernel) (by decide +kernel)
theorem km_L_12 : Cond.methodLink RL 12 yX8_init ∈ xWs := xin (i := 740) (by decide +kernel) (by decide +kernel)
theorem kp_instanceMethod_yX8_init : Cond.instanceMethod yX8_init ∈ xWs := xin (i := 741) (by decide +kernel) (by decide +kernel)
theorem kp_code_yX8_init : Cond.code yX8_init cX8_init 1 none ∈ xWs := xin (i := 742) (by decide +kernel) (by decide +kernel)
theorem km_X8_1 : Cond.methodLink RX8 1 objectInit ∈ xWs := xin (i := 743) (by decide +kernel) (by decide +kernel)
theorem kf_X8_7 : Cond.fieldLink RX8 7 "PairedStepsModel" "now" "[I" ∈ xWs := xin (i := 744) (by decide +kernel) (by decide +kernel)
theorem kf_X8_13 : Cond.fieldLink RX8 13 "PairedStepsModel" "past" "[I" ∈ xWs := xin (i := 745) (by decide +kernel) (by decide +kernel)
theorem kf_X8_16 : Cond.fieldLink RX8 16 "PairedStepsModel" "text" "[I" ∈ xWs := xin (i := 747) (by decide +kernel) (by decide +kernel)
theorem kf_X8_19 : Cond.fieldLink RX8 19 "PairedStepsModel" "code" "[I" ∈ xWs := xin (i := 749) (by decide +kernel) (by decide +kernel)
theorem kf_X8_22 : Cond.fieldLink RX8 22 "PairedStepsModel" "open" "[I" ∈ xWs := xin (i := 751) (by decide +kernel) (by decide +kernel)
theorem kf_X8_25 : Cond.fieldLink RX8 25 "PairedStepsModel" "phase" "[I" ∈ xWs := xin (i := 752) (by decide +kernel) (by decide +kernel)
theorem kf_X8_28 : Cond.fieldLink RX8 28 "PairedStepsModel" "cells" "[I" ∈ xWs := xin (i := 753) (by decide +kernel) (by decide +kernel)
theorem kf_X8_31 : Cond.fieldLink RX8 31 "PairedStepsModel" "tells" "[I" ∈ xWs := xin (i := 754) (by decide +kernel) (by decide +kernel)
theorem kf_X8_34 : Cond.fieldLink RX8 34 "PairedStepsModel" "markSteps" "[I" ∈ xWs := xin (i := 755) (by decide +kernel) (by decide +kernel)
theorem kf_X8_37 : Cond.fieldLink RX8 37 "PairedStepsModel" "markCells" "[I" ∈ xWs := xin (i := 756) (by decide +kernel) (by decide +kernel)
theorem kf_X8_40 : Cond.fieldLink RX8 40 "PairedStepsModel" "numbers" "[I" ∈ xWs := xin (i := 757) (by decide +kernel) (by decide +kernel)
theorem kf_X8_43 : Cond.fieldLink RX8 43 "PairedStepsModel" "into" "[I" ∈ xWs := xin (i := 758) (by decide +kernel) (by decide +kernel)
theorem kf_X8_46 : Cond.fieldLink RX8 46 "PairedStepsModel" "until" "[I" ∈ xWs := xin (i := 759) (by decide +kernel) (by decide +kernel)
theorem kf_X8_49 : Cond.fieldLink RX8 49 "PairedStepsModel" "rounds" "[I" ∈ xWs := xin (i := 760) (by decide +kernel) (by decide +kernel)
theorem kf_X8_52 : Cond.fieldLink RX8 52 "PairedStepsModel" "before" "[I" ∈ xWs := xin (i := 761) (by decide +kernel) (by decide +kernel)
theorem kf_X8_55 : Cond.fieldLink RX8 55 "PairedStepsModel" "beforeMany" "[I" ∈ xWs := xin (i := 762) (by decide +kernel) (by decide +kernel)
theorem kf_X8_58 : Cond.fieldLink RX8 58 "PairedStepsModel" "beforeCut" "[I" ∈ xWs := xin (i := 763) (by decide +kernel) (by decide +kernel)
theorem km_L_13 : Cond.methodLink RL 13 yX7_append ∈ xWs := xin (i := 293) (by decide +kernel) (by decide +kernel)
theorem kp_instanceMethod_yX7_append : Cond.instanceMethod yX7_append ∈ xWs := xin (i := 294) (by decide +kernel) (by decide +kernel)
theorem kp_selects_yX7_append : Cond.selects RX7 yX7_append yX7_append ∈ xWs := xin (i := 295) (by decide +kernel) (by decide +kernel)
theorem kp_code_yX7_append : Cond.code yX7_append cX7_append 2 (some .int) ∈ xWs := xin (i := 296) (by decide +kernel) (by decide +kernel)
theorem km_X7_59 : Cond.methodLink RX7 59 yX7_isWithin ∈ xWs := xin (i := 297) (by decide +kernel) (by decide +kernel)
theorem kp_static_yX7_isWithin : Cond.static yX7_isWithin ∈ xWs := xin (i := 298) (by decide +kernel) (by decide +kernel)
theorem kp_code_yX7_isWithin : Cond.code yX7_isWithin cX7_isWithin 3 (some .boolean) ∈ xWs := xin (i := 299) (by decide +kernel) (by decide +kernel)
theorem km_X7_63 : Cond.methodLink RX7 63 yX5_isFull ∈ xWs := xin (i := 300) (by decide +kernel) (by decide +kernel)
theorem kp_instanceMethod_yX5_isFull : Cond.instanceMethod yX5_isFull ∈ xWs := xin (i := 301) (by decide +kernel) (by decide +kernel)
theorem kp_selects_yX5_isFull : Cond.selects RX5 yX5_isFull yX5_isFull ∈ xWs := xin (i := 302) (by decide +kernel) (by decide +kernel)
theorem kp_code_yX5_isFull : Cond.code yX5_isFull cX5_isFull 1 (some .boolean) ∈ xWs := xin (i := 303) (by decide +kernel) (by decide +kernel)
theorem kf_X5_15 : Cond.fieldLink RX5 15 "PairedSteps$Text" "length" "I" ∈ xWs := xin (i := 96) (by decide +kernel) (by decide +kernel)
theorem km_X7_67 : Cond.methodLink RX7 67 yX5_add ∈ xWs := xin (i := 304) (by decide +kernel) (by decide +kernel)
theorem kp_instanceMethod_yX5_add : Cond.instanceMethod yX5_add ∈ xWs := xin (i := 305) (by decide +kernel) (by decide +kernel)
theorem kp_selects_yX5_add : Cond.selects RX5 yX5_add yX5_add ∈ xWs := xin (i := 306) (by decide +kernel) (by decide +kernel)
theorem kp_code_yX5_add : Cond.code yX5_add cX5_add 2 none ∈ xWs := xin (i := 307) (by decide +kernel) (by decide +kernel)
theorem km_L_17 : Cond.methodLink RL 17 yX8_append ∈ xWs := xin (i := 809) (by decide +kernel) (by decide +kernel)
theorem kp_instanceMethod_yX8_append : Cond.instanceMethod yX8_append ∈ xWs := xin (i := 810) (by decide +kernel) (by decide +kernel)
theorem kp_selects_yX8_append : Cond.selects RX8 yX8_append yX8_append ∈ xWs := xin (i := 811) (by decide +kernel) (by decide +kernel)
theorem kp_code_yX8_append : Cond.code yX8_append cX8_append 2 (some .int) ∈ xWs := xin (i := 812) (by decide +kernel) (by decide +kernel)
theorem kf_X8_69 : Cond.fieldLink RX8 69 "PairedStepsModel" "length" "I" ∈ xWs := xin (i := 748) (by decide +kernel) (by decide +kernel)
theorem km_X8_61 : Cond.methodLink RX8 61 yX8_within ∈ xWs := xin (i := 813) (by decide +kernel) (by decide +kernel)
theorem kp_static_yX8_within : Cond.static yX8_within ∈ xWs := xin (i := 814) (by decide +kernel) (by decide +kernel)
theorem kp_code_yX8_within : Cond.code yX8_within cX8_within 3 (some .boolean) ∈ xWs := xin (i := 815) (by decide +kernel) (by decide +kernel)
theorem km_L_18 : Cond.methodLink RL 18 yX7_clearText ∈ xWs := xin (i := 309) (by decide +kernel) (by decide +kernel)
theorem kp_instanceMethod_yX7_clearText : Cond.instanceMethod yX7_clearText ∈ xWs := xin (i := 310) (by decide +kernel) (by decide +kernel)
theorem kp_selects_yX7_clearText : Cond.selects RX7 yX7_clearText yX7_clearText ∈ xWs := xin (i := 311) (by decide +kernel) (by decide +kernel)
theorem kp_code_yX7_clearText : Cond.code yX7_clearText cX7_clearText 2 (some .int) ∈ xWs := xin (i := 312) (by decide +kernel) (by decide +kernel)
theorem km_L_22 : Cond.methodLink RL 22 yX8_clearText ∈ xWs := xin (i := 816) (by decide +kernel) (by decide +kernel)
theorem kp_instanceMethod_yX8_clearText : Cond.instanceMethod yX8_clearText ∈ xWs := xin (i := 817) (by decide +kernel) (by decide +kernel)
theorem kp_selects_yX8_clearText : Cond.selects RX8 yX8_clearText yX8_clearText ∈ xWs := xin (i := 818) (by decide +kernel) (by decide +kernel)
theorem kp_code_yX8_clearText : Cond.code yX8_clearText cX8_clearText 2 (some .int) ∈ xWs := xin (i := 819) (by decide +kernel) (by decide +kernel)
theorem km_L_23 : Cond.methodLink RL 23 yX7_read ∈ xWs := xin (i := 313) (by decide +kernel) (by decide +kernel)
theorem kp_instanceMethod_yX7_read : Cond.instanceMethod yX7_read ∈ xWs := xin (i := 314) (by decide +kernel) (by decide +kernel)
theorem kp_selects_yX7_read : Cond.selects RX7 yX7_read yX7_read ∈ xWs := xin (i := 315) (by decide +kernel) (by decide +kernel)
theorem kp_code_yX7_read : Cond.code yX7_read cX7_read 3 (some .int) ∈ xWs := xin (i := 316) (by decide +kernel) (by decide +kernel)
theorem km_X7_75 : Cond.methodLink RX7 75 yX7_isProgram ∈ xWs := xin (i := 317) (by decide +kernel) (by decide +kernel)
theorem kp_static_yX7_isProgram : Cond.static yX7_isProgram ∈ xWs := xin (i := 318) (by decide +kernel) (by decide +kernel)
theorem kp_code_yX7_isProgram : Cond.code yX7_isProgram cX7_isProgram 1 (some .boolean) ∈ xWs := xin (i := 319) (by decide +kernel) (by decide +kernel)
theorem km_X7_79 : Cond.methodLink RX7 79 yX3_readDraft ∈ xWs := xin (i := 320) (by decide +kernel) (by decide +kernel)
theorem kp_instanceMethod_yX3_readDraft : Cond.instanceMethod yX3_readDraft ∈ xWs := xin (i := 321) (by decide +kernel) (by decide +kernel)
theorem kp_selects_yX3_readDraft : Cond.selects RX3 yX3_readDraft yX3_readDraft ∈ xWs := xin (i := 322) (by decide +kernel) (by decide +kernel)
theorem kp_code_yX3_readDraft : Cond.code yX3_readDraft cX3_readDraft 3 (some .boolean) ∈ xWs := xin (i := 323) (by decide +kernel) (by decide +kernel)
theorem kf_X3_32 : Cond.fieldLink RX3 32 "PairedSteps$Reader" "depth" "I" ∈ xWs := xin (i := 154) (by decide +kernel) (by decide +kernel)
theorem kf_X3_35 : Cond.fieldLink RX3 35 "PairedSteps$Reader" "place" "I" ∈ xWs := xin (i := 155) (by decide +kernel) (by decide +kernel)
theorem km_X3_38 : Cond.methodLink RX3 38 yX3_nextSign ∈ xWs := xin (i := 324) (by decide +kernel) (by decide +kernel)
theorem kp_instanceMethod_yX3_nextSign : Cond.instanceMethod yX3_nextSign ∈ xWs := xin (i := 326) (by decide +kernel) (by decide +kernel)
theorem kp_selects_yX3_nextSign : Cond.selects RX3 yX3_nextSign yX3_nextSign ∈ xWs := xin (i := 0) (by decide +kernel) (by decide +kernel)
theorem kp_code_yX3_nextSign : Cond.code yX3_nextSign cX3_nextSign 2 (some .int) ∈ xWs := xin (i := 327) (by decide +kernel) (by decide +kernel)
theorem km_X3_102 : Cond.methodLink RX3 102 yX5_signAt ∈ xWs := xin (i := 328) (by decide +kernel) (by decide +kernel)
theorem kp_instanceMethod_yX5_signAt : Cond.instanceMethod yX5_signAt ∈ xWs := xin (i := 329) (by decide +kernel) (by decide +kernel)
theorem kp_selects_yX5_signAt : Cond.selects RX5 yX5_signAt yX5_signAt ∈ xWs := xin (i := 330) (by decide +kernel) (by decide +kernel)
theorem kp_code_yX5_signAt : Cond.code yX5_signAt cX5_signAt 2 (some .int) ∈ xWs := xin (i := 331) (by decide +kernel) (by decide +kernel)
theorem km_X5_23 : Cond.methodLink RX5 23 Lib.Math.min.name ∈ xWs := xin (i := 332) (by decide +kernel) (by decide +kernel)
theorem kp_static_Lib_Math_min_name : Cond.static Lib.Math.min.name ∈ xWs := xin (i := 333) (by decide +kernel) (by decide +kernel)
theorem kp_init_java_lang_Math : Cond.initialized "java/lang/Math" ∈ xWs := xin (i := 79) (by decide +kernel) (by decide +kernel)
theorem kp_code_Lib_Math_min_name : Cond.code Lib.Math.min.name Lib.Math.min.code 2 (some .int) ∈ xWs := xin (i := 334) (by decide +kernel) (by decide +kernel)
theorem km_X3_42 : Cond.methodLink RX3 42 yX3_awaitedSign ∈ xWs := xin (i := 335) (by decide +kernel) (by decide +kernel)
theorem kp_instanceMethod_yX3_awaitedSign : Cond.instanceMethod yX3_awaitedSign ∈ xWs := xin (i := 337) (by decide +kernel) (by decide +kernel)
theorem kp_selects_yX3_awaitedSign : Cond.selects RX3 yX3_awaitedSign yX3_awaitedSign ∈ xWs := xin (i := 1) (by decide +kernel) (by decide +kernel)
theorem kp_code_yX3_awaitedSign : Cond.code yX3_awaitedSign cX3_awaitedSign 1 (some .int) ∈ xWs := xin (i := 338) (by decide +kernel) (by decide +kernel)
theorem km_X3_45 : Cond.methodLink RX3 45 yX3_readStatement ∈ xWs := xin (i := 340) (by decide +kernel) (by decide +kernel)
theorem kp_instanceMethod_yX3_readStatement : Cond.instanceMethod yX3_readStatement ∈ xWs := xin (i := 342) (by decide +kernel) (by decide +kernel)
theorem kp_selects_yX3_readStatement : Cond.selects RX3 yX3_readStatement yX3_readStatement ∈ xWs := xin (i := 2) (by decide +kernel) (by decide +kernel)
theorem kp_code_yX3_readStatement : Cond.code yX3_readStatement cX3_readStatement 2 (some .boolean) ∈ xWs := xin (i := 343) (by decide +kernel) (by decide +kernel)
theorem km_X3_56 : Cond.methodLink RX3 56 yX1_isFull ∈ xWs := xin (i := 344) (by decide +kernel) (by decide +kernel)
theorem kp_instanceMethod_yX1_isFull : Cond.instanceMethod yX1_isFull ∈ xWs := xin (i := 345) (by decide +kernel) (by decide +kernel)
theorem kp_selects_yX1_isFull : Cond.selects RX1 yX1_isFull yX1_isFull ∈ xWs := xin (i := 346) (by decide +kernel) (by decide +kernel)
theorem kp_code_yX1_isFull : Cond.code yX1_isFull cX1_isFull 1 (some .boolean) ∈ xWs := xin (i := 347) (by decide +kernel) (by decide +kernel)
theorem kf_X1_39 : Cond.fieldLink RX1 39 "PairedSteps$Listing" "size" "I" ∈ xWs := xin (i := 110) (by decide +kernel) (by decide +kernel)
theorem km_X3_60 : Cond.methodLink RX3 60 yX3_readTell ∈ xWs := xin (i := 348) (by decide +kernel) (by decide +kernel)
theorem kp_instanceMethod_yX3_readTell : Cond.instanceMethod yX3_readTell ∈ xWs := xin (i := 350) (by decide +kernel) (by decide +kernel)
theorem kp_selects_yX3_readTell : Cond.selects RX3 yX3_readTell yX3_readTell ∈ xWs := xin (i := 3) (by decide +kernel) (by decide +kernel)
theorem kp_code_yX3_readTell : Cond.code yX3_readTell cX3_readTell 2 (some .boolean) ∈ xWs := xin (i := 351) (by decide +kernel) (by decide +kernel)
theorem km_X3_80 : Cond.methodLink RX3 80 yX3_takeCell ∈ xWs := xin (i := 352) (by decide +kernel) (by decide +kernel)
theorem kp_instanceMethod_yX3_takeCell : Cond.instanceMethod yX3_takeCell ∈ xWs := xin (i := 354) (by decide +kernel) (by decide +kernel)
theorem kp_selects_yX3_takeCell : Cond.selects RX3 yX3_takeCell yX3_takeCell ∈ xWs := xin (i := 4) (by decide +kernel) (by decide +kernel)
theorem kp_code_yX3_takeCell : Cond.code yX3_takeCell cX3_takeCell 2 (some .int) ∈ xWs := xin (i := 355) (by decide +kernel) (by decide +kernel)
theorem kp_static_yX7_isCell : Cond.static yX7_isCell ∈ xWs := xin (i := 357) (by decide +kernel) (by decide +kernel)
theorem kp_code_yX7_isCell : Cond.code yX7_isCell cX7_isCell 1 (some .boolean) ∈ xWs := xin (i := 358) (by decide +kernel) (by decide +kernel)
theorem km_X3_63 : Cond.methodLink RX3 63 yX3_take ∈ xWs := xin (i := 359) (by decide +kernel) (by decide +kernel)
theorem kp_instanceMethod_yX3_take : Cond.instanceMethod yX3_take ∈ xWs := xin (i := 361) (by decide +kernel) (by decide +kernel)
theorem kp_selects_yX3_take : Cond.selects RX3 yX3_take yX3_take ∈ xWs := xin (i := 5) (by decide +kernel) (by decide +kernel)
theorem kp_code_yX3_take : Cond.code yX3_take cX3_take 2 (some .boolean) ∈ xWs := xin (i := 362) (by decide +kernel) (by decide +kernel)
theorem km_X3_66 : Cond.methodLink RX3 66 yX3_innermost ∈ xWs := xin (i := 363) (by decide +kernel) (by decide +kernel)
theorem kp_instanceMethod_yX3_innermost : Cond.instanceMethod yX3_innermost ∈ xWs := xin (i := 365) (by decide +kernel) (by decide +kernel)
theorem kp_selects_yX3_innermost : Cond.selects RX3 yX3_innermost yX3_innermost ∈ xWs := xin (i := 6) (by decide +kernel) (by decide +kernel)
theorem kp_code_yX3_innermost : Cond.code yX3_innermost cX3_innermost 1 (some .int) ∈ xWs := xin (i := 366) (by decide +kernel) (by decide +kernel)
theorem km_X3_69 : Cond.methodLink RX3 69 yX1_add ∈ xWs := xin (i := 367) (by decide +kernel) (by decide +kernel)
theorem kp_instanceMethod_yX1_add : Cond.instanceMethod yX1_add ∈ xWs := xin (i := 368) (by decide +kernel) (by decide +kernel)
theorem kp_selects_yX1_add : Cond.selects RX1 yX1_add yX1_add ∈ xWs := xin (i := 369) (by decide +kernel) (by decide +kernel)
theorem kp_code_yX1_add : Cond.code yX1_add cX1_add 4 (some .boolean) ∈ xWs := xin (i := 370) (by decide +kernel) (by decide +kernel)
theorem km_X3_73 : Cond.methodLink RX3 73 yX3_readOpening ∈ xWs := xin (i := 372) (by decide +kernel) (by decide +kernel)
theorem kp_instanceMethod_yX3_readOpening : Cond.instanceMethod yX3_readOpening ∈ xWs := xin (i := 374) (by decide +kernel) (by decide +kernel)
theorem kp_selects_yX3_readOpening : Cond.selects RX3 yX3_readOpening yX3_readOpening ∈ xWs := xin (i := 7) (by decide +kernel) (by decide +kernel)
theorem kp_code_yX3_readOpening : Cond.code yX3_readOpening cX3_readOpening 4 (some .boolean) ∈ xWs := xin (i := 375) (by decide +kernel) (by decide +kernel)
theorem km_X3_77 : Cond.methodLink RX3 77 yX3_readSetting ∈ xWs := xin (i := 376) (by decide +kernel) (by decide +kernel)
theorem kp_instanceMethod_yX3_readSetting : Cond.instanceMethod yX3_readSetting ∈ xWs := xin (i := 378) (by decide +kernel) (by decide +kernel)
theorem kp_selects_yX3_readSetting : Cond.selects RX3 yX3_readSetting yX3_readSetting ∈ xWs := xin (i := 8) (by decide +kernel) (by decide +kernel)
theorem kp_code_yX3_readSetting : Cond.code yX3_readSetting cX3_readSetting 5 (some .boolean) ∈ xWs := xin (i := 379) (by decide +kernel) (by decide +kernel)
theorem km_X3_83 : Cond.methodLink RX3 83 yX3_takeTerm ∈ xWs := xin (i := 380) (by decide +kernel) (by decide +kernel)
theorem kp_instanceMethod_yX3_takeTerm : Cond.instanceMethod yX3_takeTerm ∈ xWs := xin (i := 382) (by decide +kernel) (by decide +kernel)
theorem kp_selects_yX3_takeTerm : Cond.selects RX3 yX3_takeTerm yX3_takeTerm ∈ xWs := xin (i := 9) (by decide +kernel) (by decide +kernel)
theorem kp_code_yX3_takeTerm : Cond.code yX3_takeTerm cX3_takeTerm 2 (some .int) ∈ xWs := xin (i := 383) (by decide +kernel) (by decide +kernel)
theorem km_X3_111 : Cond.methodLink RX3 111 yX3_isDigit ∈ xWs := xin (i := 384) (by decide +kernel) (by decide +kernel)
theorem kp_static_yX3_isDigit : Cond.static yX3_isDigit ∈ xWs := xin (i := 385) (by decide +kernel) (by decide +kernel)
theorem kp_code_yX3_isDigit : Cond.code yX3_isDigit cX3_isDigit 1 (some .boolean) ∈ xWs := xin (i := 386) (by decide +kernel) (by decide +kernel)
theorem km_X3_114 : Cond.methodLink RX3 114 yX3_takeNumber ∈ xWs := xin (i := 387) (by decide +kernel) (by decide +kernel)
theorem kp_instanceMethod_yX3_takeNumber : Cond.instanceMethod yX3_takeNumber ∈ xWs := xin (i := 389) (by decide +kernel) (by decide +kernel)
theorem kp_selects_yX3_takeNumber : Cond.selects RX3 yX3_takeNumber yX3_takeNumber ∈ xWs := xin (i := 10) (by decide +kernel) (by decide +kernel)
theorem kp_code_yX3_takeNumber : Cond.code yX3_takeNumber cX3_takeNumber 3 (some .int) ∈ xWs := xin (i := 390) (by decide +kernel) (by decide +kernel)
theorem km_X3_86 : Cond.methodLink RX3 86 yX3_takeOperator ∈ xWs := xin (i := 391) (by decide +kernel) (by decide +kernel)
theorem kp_instanceMethod_yX3_takeOperator : Cond.instanceMethod yX3_takeOperator ∈ xWs := xin (i := 393) (by decide +kernel) (by decide +kernel)
theorem kp_selects_yX3_takeOperator : Cond.selects RX3 yX3_takeOperator yX3_takeOperator ∈ xWs := xin (i := 11) (by decide +kernel) (by decide +kernel)
theorem kp_code_yX3_takeOperator : Cond.code yX3_takeOperator cX3_takeOperator 2 (some .int) ∈ xWs := xin (i := 394) (by decide +kernel) (by decide +kernel)
theorem km_X3_89 : Cond.methodLink RX3 89 yX1_setTerms ∈ xWs := xin (i := 395) (by decide +kernel) (by decide +kernel)
theorem kp_instanceMethod_yX1_setTerms : Cond.instanceMethod yX1_setTerms ∈ xWs := xin (i := 396) (by decide +kernel) (by decide +kernel)
theorem kp_selects_yX1_setTerms : Cond.selects RX1 yX1_setTerms yX1_setTerms ∈ xWs := xin (i := 397) (by decide +kernel) (by decide +kernel)
theorem kp_code_yX1_setTerms : Cond.code yX1_setTerms cX1_setTerms 5 none ∈ xWs := xin (i := 398) (by decide +kernel) (by decide +kernel)
theorem km_X1_53 : Cond.methodLink RX1 53 yX1_holds ∈ xWs := xin (i := 399) (by decide +kernel) (by decide +kernel)
theorem kp_instanceMethod_yX1_holds : Cond.instanceMethod yX1_holds ∈ xWs := xin (i := 400) (by decide +kernel) (by decide +kernel)
theorem kp_selects_yX1_holds : Cond.selects RX1 yX1_holds yX1_holds ∈ xWs := xin (i := 401) (by decide +kernel) (by decide +kernel)
theorem kp_code_yX1_holds : Cond.code yX1_holds cX1_holds 2 (some .boolean) ∈ xWs := xin (i := 402) (by decide +kernel) (by decide +kernel)
theorem km_X1_43 : Cond.methodLink RX1 43 Lib.Math.min.name ∈ xWs := xin (i := 403) (by decide +kernel) (by decide +kernel)
theorem km_X3_49 : Cond.methodLink RX3 49 yX1_link ∈ xWs := xin (i := 404) (by decide +kernel) (by decide +kernel)
theorem kp_instanceMethod_yX1_link : Cond.instanceMethod yX1_link ∈ xWs := xin (i := 405) (by decide +kernel) (by decide +kernel)
theorem kp_selects_yX1_link : Cond.selects RX1 yX1_link yX1_link ∈ xWs := xin (i := 406) (by decide +kernel) (by decide +kernel)
theorem kp_code_yX1_link : Cond.code yX1_link cX1_link 2 none ∈ xWs := xin (i := 407) (by decide +kernel) (by decide +kernel)
theorem km_X1_74 : Cond.methodLink RX1 74 yX1_followerOf ∈ xWs := xin (i := 408) (by decide +kernel) (by decide +kernel)
theorem kp_instanceMethod_yX1_followerOf : Cond.instanceMethod yX1_followerOf ∈ xWs := xin (i := 410) (by decide +kernel) (by decide +kernel)
theorem kp_selects_yX1_followerOf : Cond.selects RX1 yX1_followerOf yX1_followerOf ∈ xWs := xin (i := 12) (by decide +kernel) (by decide +kernel)
theorem kp_code_yX1_followerOf : Cond.code yX1_followerOf cX1_followerOf 5 (some .int) ∈ xWs := xin (i := 411) (by decide +kernel) (by decide +kernel)
theorem km_X1_78 : Cond.methodLink RX1 78 yX1_item ∈ xWs := xin (i := 412) (by decide +kernel) (by decide +kernel)
theorem kp_instanceMethod_yX1_item : Cond.instanceMethod yX1_item ∈ xWs := xin (i := 414) (by decide +kernel) (by decide +kernel)
theorem kp_selects_yX1_item : Cond.selects RX1 yX1_item yX1_item ∈ xWs := xin (i := 13) (by decide +kernel) (by decide +kernel)
theorem kp_code_yX1_item : Cond.code yX1_item cX1_item 3 (some .int) ∈ xWs := xin (i := 415) (by decide +kernel) (by decide +kernel)
theorem km_X3_52 : Cond.methodLink RX3 52 yX3_goOn ∈ xWs := xin (i := 416) (by decide +kernel) (by decide +kernel)
theorem kp_instanceMethod_yX3_goOn : Cond.instanceMethod yX3_goOn ∈ xWs := xin (i := 418) (by decide +kernel) (by decide +kernel)
theorem kp_selects_yX3_goOn : Cond.selects RX3 yX3_goOn yX3_goOn ∈ xWs := xin (i := 14) (by decide +kernel) (by decide +kernel)
theorem kp_code_yX3_goOn : Cond.code yX3_goOn cX3_goOn 2 none ∈ xWs := xin (i := 419) (by decide +kernel) (by decide +kernel)
theorem km_X3_96 : Cond.methodLink RX3 96 yX1_endFirstPart ∈ xWs := xin (i := 420) (by decide +kernel) (by decide +kernel)
theorem kp_instanceMethod_yX1_endFirstPart : Cond.instanceMethod yX1_endFirstPart ∈ xWs := xin (i := 421) (by decide +kernel) (by decide +kernel)
theorem kp_selects_yX1_endFirstPart : Cond.selects RX1 yX1_endFirstPart yX1_endFirstPart ∈ xWs := xin (i := 422) (by decide +kernel) (by decide +kernel)
theorem kp_code_yX1_endFirstPart : Cond.code yX1_endFirstPart cX1_endFirstPart 2 none ∈ xWs := xin (i := 423) (by decide +kernel) (by decide +kernel)
theorem km_X3_99 : Cond.methodLink RX3 99 yX1_close ∈ xWs := xin (i := 424) (by decide +kernel) (by decide +kernel)
theorem kp_instanceMethod_yX1_close : Cond.instanceMethod yX1_close ∈ xWs := xin (i := 425) (by decide +kernel) (by decide +kernel)
theorem kp_selects_yX1_close : Cond.selects RX1 yX1_close yX1_close ∈ xWs := xin (i := 426) (by decide +kernel) (by decide +kernel)
theorem kp_code_yX1_close : Cond.code yX1_close cX1_close 2 none ∈ xWs := xin (i := 427) (by decide +kernel) (by decide +kernel)
theorem km_X7_85 : Cond.methodLink RX7 85 yX0_push ∈ xWs := xin (i := 428) (by decide +kernel) (by decide +kernel)
theorem kp_instanceMethod_yX0_push : Cond.instanceMethod yX0_push ∈ xWs := xin (i := 429) (by decide +kernel) (by decide +kernel)
theorem kp_selects_yX0_push : Cond.selects RX0 yX0_push yX0_push ∈ xWs := xin (i := 430) (by decide +kernel) (by decide +kernel)
theorem kp_code_yX0_push : Cond.code yX0_push cX0_push 3 none ∈ xWs := xin (i := 431) (by decide +kernel) (by decide +kernel)
theorem kf_X0_21 : Cond.fieldLink RX0 21 "PairedSteps$History" "size" "I" ∈ xWs := xin (i := 181) (by decide +kernel) (by decide +kernel)
theorem km_X0_25 : Cond.methodLink RX0 25 yX0_dropOldest ∈ xWs := xin (i := 432) (by decide +kernel) (by decide +kernel)
theorem kp_instanceMethod_yX0_dropOldest : Cond.instanceMethod yX0_dropOldest ∈ xWs := xin (i := 434) (by decide +kernel) (by decide +kernel)
theorem kp_selects_yX0_dropOldest : Cond.selects RX0 yX0_dropOldest yX0_dropOldest ∈ xWs := xin (i := 15) (by decide +kernel) (by decide +kernel)
theorem kp_code_yX0_dropOldest : Cond.code yX0_dropOldest cX0_dropOldest 4 none ∈ xWs := xin (i := 435) (by decide +kernel) (by decide +kernel)
theorem km_X0_32 : Cond.methodLink RX0 32 yX1_takeFrom ∈ xWs := xin (i := 437) (by decide +kernel) (by decide +kernel)
theorem kp_instanceMethod_yX1_takeFrom : Cond.instanceMethod yX1_takeFrom ∈ xWs := xin (i := 438) (by decide +kernel) (by decide +kernel)
theorem kp_selects_yX1_takeFrom : Cond.selects RX1 yX1_takeFrom yX1_takeFrom ∈ xWs := xin (i := 439) (by decide +kernel) (by decide +kernel)
theorem kp_code_yX1_takeFrom : Cond.code yX1_takeFrom cX1_takeFrom 2 none ∈ xWs := xin (i := 440) (by decide +kernel) (by decide +kernel)
theorem km_X1_57 : Cond.methodLink RX1 57 arraycopyName ∈ xWs := xin (i := 441) (by decide +kernel) (by decide +kernel)
theorem kp_native_arraycopyName : Cond.native arraycopyName ∈ xWs := xin (i := 443) (by decide +kernel) (by decide +kernel)
theorem kp_static_arraycopyName : Cond.static arraycopyName ∈ xWs := xin (i := 442) (by decide +kernel) (by decide +kernel)
theorem kp_init_java_lang_System : Cond.initialized "java/lang/System" ∈ xWs := xin (i := 80) (by decide +kernel) (by decide +kernel)
theorem km_X7_89 : Cond.methodLink RX7 89 yX7_listingOf ∈ xWs := xin (i := 444) (by decide +kernel) (by decide +kernel)
theorem kp_instanceMethod_yX7_listingOf : Cond.instanceMethod yX7_listingOf ∈ xWs := xin (i := 446) (by decide +kernel) (by decide +kernel)
theorem kp_selects_yX7_listingOf : Cond.selects RX7 yX7_listingOf yX7_listingOf ∈ xWs := xin (i := 16) (by decide +kernel) (by decide +kernel)
theorem kp_code_yX7_listingOf : Cond.code yX7_listingOf cX7_listingOf 2 (some (.object "PairedSteps$Listing")) ∈ xWs := xin (i := 447) (by decide +kernel) (by decide +kernel)
theorem km_X7_93 : Cond.methodLink RX7 93 yX1_takeFrom ∈ xWs := xin (i := 448) (by decide +kernel) (by decide +kernel)
theorem km_L_26 : Cond.methodLink RL 26 yX8_read ∈ xWs := xin (i := 820) (by decide +kernel) (by decide +kernel)
theorem kp_instanceMethod_yX8_read : Cond.instanceMethod yX8_read ∈ xWs := xin (i := 821) (by decide +kernel) (by decide +kernel)
theorem kp_selects_yX8_read : Cond.selects RX8 yX8_read yX8_read ∈ xWs := xin (i := 822) (by decide +kernel) (by decide +kernel)
theorem kp_code_yX8_read : Cond.code yX8_read cX8_read 2 (some .int) ∈ xWs := xin (i := 823) (by decide +kernel) (by decide +kernel)
theorem kf_X8_72 : Cond.fieldLink RX8 72 "PairedStepsModel" "at" "I" ∈ xWs := xin (i := 750) (by decide +kernel) (by decide +kernel)
theorem km_X8_107 : Cond.methodLink RX8 107 yX8_isProgram ∈ xWs := xin (i := 824) (by decide +kernel) (by decide +kernel)
theorem kp_static_yX8_isProgram : Cond.static yX8_isProgram ∈ xWs := xin (i := 825) (by decide +kernel) (by decide +kernel)
theorem kp_code_yX8_isProgram : Cond.code yX8_isProgram cX8_isProgram 1 (some .boolean) ∈ xWs := xin (i := 826) (by decide +kernel) (by decide +kernel)
theorem km_X8_110 : Cond.methodLink RX8 110 yX8_readsAll ∈ xWs := xin (i := 827) (by decide +kernel) (by decide +kernel)
theorem kp_instanceMethod_yX8_readsAll : Cond.instanceMethod yX8_readsAll ∈ xWs := xin (i := 829) (by decide +kernel) (by decide +kernel)
theorem kp_selects_yX8_readsAll : Cond.selects RX8 yX8_readsAll yX8_readsAll ∈ xWs := xin (i := 32) (by decide +kernel) (by decide +kernel)
theorem kp_code_yX8_readsAll : Cond.code yX8_readsAll cX8_readsAll 5 (some .boolean) ∈ xWs := xin (i := 830) (by decide +kernel) (by decide +kernel)
theorem km_X8_75 : Cond.methodLink RX8 75 yX8_here ∈ xWs := xin (i := 831) (by decide +kernel) (by decide +kernel)
theorem kp_instanceMethod_yX8_here : Cond.instanceMethod yX8_here ∈ xWs := xin (i := 833) (by decide +kernel) (by decide +kernel)
theorem kp_selects_yX8_here : Cond.selects RX8 yX8_here yX8_here ∈ xWs := xin (i := 33) (by decide +kernel) (by decide +kernel)
theorem kp_code_yX8_here : Cond.code yX8_here cX8_here 1 (some .int) ∈ xWs := xin (i := 834) (by decide +kernel) (by decide +kernel)
theorem km_X8_100 : Cond.methodLink RX8 100 yX8_kindOf ∈ xWs := xin (i := 835) (by decide +kernel) (by decide +kernel)
theorem kp_static_yX8_kindOf : Cond.static yX8_kindOf ∈ xWs := xin (i := 836) (by decide +kernel) (by decide +kernel)
theorem kp_code_yX8_kindOf : Cond.code yX8_kindOf cX8_kindOf 1 (some .int) ∈ xWs := xin (i := 837) (by decide +kernel) (by decide +kernel)
theorem km_X8_79 : Cond.methodLink RX8 79 yX8_isLetter ∈ xWs := xin (i := 838) (by decide +kernel) (by decide +kernel)
theorem kp_static_yX8_isLetter : Cond.static yX8_isLetter ∈ xWs := xin (i := 839) (by decide +kernel) (by decide +kernel)
theorem kp_code_yX8_isLetter : Cond.code yX8_isLetter cX8_isLetter 1 (some .boolean) ∈ xWs := xin (i := 840) (by decide +kernel) (by decide +kernel)
theorem km_X8_104 : Cond.methodLink RX8 104 yX8_readsStatement ∈ xWs := xin (i := 841) (by decide +kernel) (by decide +kernel)
theorem kp_instanceMethod_yX8_readsStatement : Cond.instanceMethod yX8_readsStatement ∈ xWs := xin (i := 843) (by decide +kernel) (by decide +kernel)
theorem kp_selects_yX8_readsStatement : Cond.selects RX8 yX8_readsStatement yX8_readsStatement ∈ xWs := xin (i := 34) (by decide +kernel) (by decide +kernel)
theorem kp_code_yX8_readsStatement : Cond.code yX8_readsStatement cX8_readsStatement 5 (some .boolean) ∈ xWs := xin (i := 844) (by decide +kernel) (by decide +kernel)
theorem km_X8_83 : Cond.methodLink RX8 83 yX8_put ∈ xWs := xin (i := 845) (by decide +kernel) (by decide +kernel)
theorem kp_instanceMethod_yX8_put : Cond.instanceMethod yX8_put ∈ xWs := xin (i := 847) (by decide +kernel) (by decide +kernel)
theorem kp_selects_yX8_put : Cond.selects RX8 yX8_put yX8_put ∈ xWs := xin (i := 35) (by decide +kernel) (by decide +kernel)
theorem kp_code_yX8_put : Cond.code yX8_put cX8_put 4 none ∈ xWs := xin (i := 848) (by decide +kernel) (by decide +kernel)
theorem km_X8_97 : Cond.methodLink RX8 97 yX8_readsSetting ∈ xWs := xin (i := 849) (by decide +kernel) (by decide +kernel)
theorem kp_instanceMethod_yX8_readsSetting : Cond.instanceMethod yX8_readsSetting ∈ xWs := xin (i := 851) (by decide +kernel) (by decide +kernel)
theorem kp_selects_yX8_readsSetting : Cond.selects RX8 yX8_readsSetting yX8_readsSetting ∈ xWs := xin (i := 36) (by decide +kernel) (by decide +kernel)
theorem kp_code_yX8_readsSetting : Cond.code yX8_readsSetting cX8_readsSetting 3 (some .boolean) ∈ xWs := xin (i := 852) (by decide +kernel) (by decide +kernel)
theorem km_X8_87 : Cond.methodLink RX8 87 yX8_readsCell ∈ xWs := xin (i := 853) (by decide +kernel) (by decide +kernel)
theorem kp_instanceMethod_yX8_readsCell : Cond.instanceMethod yX8_readsCell ∈ xWs := xin (i := 855) (by decide +kernel) (by decide +kernel)
theorem kp_selects_yX8_readsCell : Cond.selects RX8 yX8_readsCell yX8_readsCell ∈ xWs := xin (i := 37) (by decide +kernel) (by decide +kernel)
theorem kp_code_yX8_readsCell : Cond.code yX8_readsCell cX8_readsCell 3 (some .boolean) ∈ xWs := xin (i := 856) (by decide +kernel) (by decide +kernel)
theorem km_X8_90 : Cond.methodLink RX8 90 yX8_passes ∈ xWs := xin (i := 857) (by decide +kernel) (by decide +kernel)
theorem kp_instanceMethod_yX8_passes : Cond.instanceMethod yX8_passes ∈ xWs := xin (i := 859) (by decide +kernel) (by decide +kernel)
theorem kp_selects_yX8_passes : Cond.selects RX8 yX8_passes yX8_passes ∈ xWs := xin (i := 38) (by decide +kernel) (by decide +kernel)
theorem kp_code_yX8_passes : Cond.code yX8_passes cX8_passes 3 (some .boolean) ∈ xWs := xin (i := 860) (by decide +kernel) (by decide +kernel)
theorem km_X8_93 : Cond.methodLink RX8 93 yX8_readsTerm ∈ xWs := xin (i := 861) (by decide +kernel) (by decide +kernel)
theorem kp_instanceMethod_yX8_readsTerm : Cond.instanceMethod yX8_readsTerm ∈ xWs := xin (i := 863) (by decide +kernel) (by decide +kernel)
theorem kp_selects_yX8_readsTerm : Cond.selects RX8 yX8_readsTerm yX8_readsTerm ∈ xWs := xin (i := 39) (by decide +kernel) (by decide +kernel)
theorem kp_code_yX8_readsTerm : Cond.code yX8_readsTerm cX8_readsTerm 7 (some .boolean) ∈ xWs := xin (i := 864) (by decide +kernel) (by decide +kernel)
theorem km_X8_114 : Cond.methodLink RX8 114 yX8_saves ∈ xWs := xin (i := 865) (by decide +kernel) (by decide +kernel)
theorem kp_instanceMethod_yX8_saves : Cond.instanceMethod yX8_saves ∈ xWs := xin (i := 867) (by decide +kernel) (by decide +kernel)
theorem kp_selects_yX8_saves : Cond.selects RX8 yX8_saves yX8_saves ∈ xWs := xin (i := 40) (by decide +kernel) (by decide +kernel)
theorem kp_code_yX8_saves : Cond.code yX8_saves cX8_saves 2 none ∈ xWs := xin (i := 868) (by decide +kernel) (by decide +kernel)
theorem kf_X8_65 : Cond.fieldLink RX8 65 "PairedStepsModel" "saved" "I" ∈ xWs := xin (i := 746) (by decide +kernel) (by decide +kernel)
theorem km_X8_117 : Cond.methodLink RX8 117 yX8_lays ∈ xWs := xin (i := 869) (by decide +kernel) (by decide +kernel)
theorem kp_instanceMethod_yX8_lays : Cond.instanceMethod yX8_lays ∈ xWs := xin (i := 871) (by decide +kernel) (by decide +kernel)
theorem kp_selects_yX8_lays : Cond.selects RX8 yX8_lays yX8_lays ∈ xWs := xin (i := 41) (by decide +kernel) (by decide +kernel)
theorem kp_code_yX8_lays : Cond.code yX8_lays cX8_lays 3 none ∈ xWs := xin (i := 872) (by decide +kernel) (by decide +kernel)
theorem km_L_27 : Cond.methodLink RL 27 yX7_copy ∈ xWs := xin (i := 449) (by decide +kernel) (by decide +kernel)
theorem kp_instanceMethod_yX7_copy : Cond.instanceMethod yX7_copy ∈ xWs := xin (i := 450) (by decide +kernel) (by decide +kernel)
theorem kp_selects_yX7_copy : Cond.selects RX7 yX7_copy yX7_copy ∈ xWs := xin (i := 451) (by decide +kernel) (by decide +kernel)
theorem kp_code_yX7_copy : Cond.code yX7_copy cX7_copy 1 (some .int) ∈ xWs := xin (i := 452) (by decide +kernel) (by decide +kernel)
theorem km_L_30 : Cond.methodLink RL 30 yX8_copy ∈ xWs := xin (i := 873) (by decide +kernel) (by decide +kernel)
theorem kp_instanceMethod_yX8_copy : Cond.instanceMethod yX8_copy ∈ xWs := xin (i := 874) (by decide +kernel) (by decide +kernel)
theorem kp_selects_yX8_copy : Cond.selects RX8 yX8_copy yX8_copy ∈ xWs := xin (i := 875) (by decide +kernel) (by decide +kernel)
theorem kp_code_yX8_copy : Cond.code yX8_copy cX8_copy 1 (some .int) ∈ xWs := xin (i := 876) (by decide +kernel) (by decide +kernel)
theorem km_X8_121 : Cond.methodLink RX8 121 yX8_takes ∈ xWs := xin (i := 877) (by decide +kernel) (by decide +kernel)
theorem kp_instanceMethod_yX8_takes : Cond.instanceMethod yX8_takes ∈ xWs := xin (i := 879) (by decide +kernel) (by decide +kernel)
theorem kp_selects_yX8_takes : Cond.selects RX8 yX8_takes yX8_takes ∈ xWs := xin (i := 42) (by decide +kernel) (by decide +kernel)
theorem kp_code_yX8_takes : Cond.code yX8_takes cX8_takes 3 none ∈ xWs := xin (i := 880) (by decide +kernel) (by decide +kernel)
theorem km_L_31 : Cond.methodLink RL 31 yX7_exchange ∈ xWs := xin (i := 453) (by decide +kernel) (by decide +kernel)
theorem kp_instanceMethod_yX7_exchange : Cond.instanceMethod yX7_exchange ∈ xWs := xin (i := 454) (by decide +kernel) (by decide +kernel)
theorem kp_selects_yX7_exchange : Cond.selects RX7 yX7_exchange yX7_exchange ∈ xWs := xin (i := 455) (by decide +kernel) (by decide +kernel)
theorem kp_code_yX7_exchange : Cond.code yX7_exchange cX7_exchange 2 (some .int) ∈ xWs := xin (i := 456) (by decide +kernel) (by decide +kernel)
theorem km_L_34 : Cond.methodLink RL 34 yX8_exchange ∈ xWs := xin (i := 881) (by decide +kernel) (by decide +kernel)
theorem kp_instanceMethod_yX8_exchange : Cond.instanceMethod yX8_exchange ∈ xWs := xin (i := 882) (by decide +kernel) (by decide +kernel)
theorem kp_selects_yX8_exchange : Cond.selects RX8 yX8_exchange yX8_exchange ∈ xWs := xin (i := 883) (by decide +kernel) (by decide +kernel)
theorem kp_code_yX8_exchange : Cond.code yX8_exchange cX8_exchange 2 (some .int) ∈ xWs := xin (i := 884) (by decide +kernel) (by decide +kernel)
theorem km_L_35 : Cond.methodLink RL 35 yX7_cut ∈ xWs := xin (i := 457) (by decide +kernel) (by decide +kernel)
theorem kp_instanceMethod_yX7_cut : Cond.instanceMethod yX7_cut ∈ xWs := xin (i := 458) (by decide +kernel) (by decide +kernel)
theorem kp_selects_yX7_cut : Cond.selects RX7 yX7_cut yX7_cut ∈ xWs := xin (i := 459) (by decide +kernel) (by decide +kernel)
theorem kp_code_yX7_cut : Cond.code yX7_cut cX7_cut 4 (some .int) ∈ xWs := xin (i := 460) (by decide +kernel) (by decide +kernel)
theorem km_X7_100 : Cond.methodLink RX7 100 yX1_holds ∈ xWs := xin (i := 461) (by decide +kernel) (by decide +kernel)
theorem km_X7_103 : Cond.methodLink RX7 103 yX1_remove ∈ xWs := xin (i := 462) (by decide +kernel) (by decide +kernel)
theorem kp_instanceMethod_yX1_remove : Cond.instanceMethod yX1_remove ∈ xWs := xin (i := 463) (by decide +kernel) (by decide +kernel)
theorem kp_selects_yX1_remove : Cond.selects RX1 yX1_remove yX1_remove ∈ xWs := xin (i := 464) (by decide +kernel) (by decide +kernel)
theorem kp_code_yX1_remove : Cond.code yX1_remove cX1_remove 4 none ∈ xWs := xin (i := 465) (by decide +kernel) (by decide +kernel)
theorem km_X1_63 : Cond.methodLink RX1 63 yX1_moveDown ∈ xWs := xin (i := 466) (by decide +kernel) (by decide +kernel)
theorem kp_instanceMethod_yX1_moveDown : Cond.instanceMethod yX1_moveDown ∈ xWs := xin (i := 468) (by decide +kernel) (by decide +kernel)
theorem kp_selects_yX1_moveDown : Cond.selects RX1 yX1_moveDown yX1_moveDown ∈ xWs := xin (i := 17) (by decide +kernel) (by decide +kernel)
theorem kp_code_yX1_moveDown : Cond.code yX1_moveDown cX1_moveDown 3 none ∈ xWs := xin (i := 469) (by decide +kernel) (by decide +kernel)
theorem km_X1_67 : Cond.methodLink RX1 67 yX1_placeWithout ∈ xWs := xin (i := 470) (by decide +kernel) (by decide +kernel)
theorem kp_static_yX1_placeWithout : Cond.static yX1_placeWithout ∈ xWs := xin (i := 471) (by decide +kernel) (by decide +kernel)
theorem kp_code_yX1_placeWithout : Cond.code yX1_placeWithout cX1_placeWithout 3 (some .int) ∈ xWs := xin (i := 472) (by decide +kernel) (by decide +kernel)
theorem km_X1_71 : Cond.methodLink RX1 71 yX1_link ∈ xWs := xin (i := 473) (by decide +kernel) (by decide +kernel)
theorem km_L_39 : Cond.methodLink RL 39 yX8_cut ∈ xWs := xin (i := 885) (by decide +kernel) (by decide +kernel)
theorem kp_instanceMethod_yX8_cut : Cond.instanceMethod yX8_cut ∈ xWs := xin (i := 886) (by decide +kernel) (by decide +kernel)
theorem kp_selects_yX8_cut : Cond.selects RX8 yX8_cut yX8_cut ∈ xWs := xin (i := 887) (by decide +kernel) (by decide +kernel)
theorem kp_code_yX8_cut : Cond.code yX8_cut cX8_cut 3 (some .int) ∈ xWs := xin (i := 888) (by decide +kernel) (by decide +kernel)
theorem km_X8_131 : Cond.methodLink RX8 131 yX8_isStatement ∈ xWs := xin (i := 889) (by decide +kernel) (by decide +kernel)
theorem kp_instanceMethod_yX8_isStatement : Cond.instanceMethod yX8_isStatement ∈ xWs := xin (i := 891) (by decide +kernel) (by decide +kernel)
theorem kp_selects_yX8_isStatement : Cond.selects RX8 yX8_isStatement yX8_isStatement ∈ xWs := xin (i := 43) (by decide +kernel) (by decide +kernel)
theorem kp_code_yX8_isStatement : Cond.code yX8_isStatement cX8_isStatement 3 (some .boolean) ∈ xWs := xin (i := 892) (by decide +kernel) (by decide +kernel)
theorem km_X8_134 : Cond.methodLink RX8 134 yX8_cuts ∈ xWs := xin (i := 893) (by decide +kernel) (by decide +kernel)
theorem kp_instanceMethod_yX8_cuts : Cond.instanceMethod yX8_cuts ∈ xWs := xin (i := 895) (by decide +kernel) (by decide +kernel)
theorem kp_selects_yX8_cuts : Cond.selects RX8 yX8_cuts yX8_cuts ∈ xWs := xin (i := 44) (by decide +kernel) (by decide +kernel)
theorem kp_code_yX8_cuts : Cond.code yX8_cuts cX8_cuts 6 none ∈ xWs := xin (i := 896) (by decide +kernel) (by decide +kernel)
theorem km_X8_128 : Cond.methodLink RX8 128 yX8_sizeOf ∈ xWs := xin (i := 897) (by decide +kernel) (by decide +kernel)
theorem kp_instanceMethod_yX8_sizeOf : Cond.instanceMethod yX8_sizeOf ∈ xWs := xin (i := 899) (by decide +kernel) (by decide +kernel)
theorem kp_selects_yX8_sizeOf : Cond.selects RX8 yX8_sizeOf yX8_sizeOf ∈ xWs := xin (i := 45) (by decide +kernel) (by decide +kernel)
theorem kp_code_yX8_sizeOf : Cond.code yX8_sizeOf cX8_sizeOf 2 (some .int) ∈ xWs := xin (i := 900) (by decide +kernel) (by decide +kernel)
theorem km_X8_124 : Cond.methodLink RX8 124 yX8_of ∈ xWs := xin (i := 901) (by decide +kernel) (by decide +kernel)
theorem kp_instanceMethod_yX8_of : Cond.instanceMethod yX8_of ∈ xWs := xin (i := 903) (by decide +kernel) (by decide +kernel)
theorem kp_selects_yX8_of : Cond.selects RX8 yX8_of yX8_of ∈ xWs := xin (i := 46) (by decide +kernel) (by decide +kernel)
theorem kp_code_yX8_of : Cond.code yX8_of cX8_of 3 (some .int) ∈ xWs := xin (i := 904) (by decide +kernel) (by decide +kernel)
theorem km_L_40 : Cond.methodLink RL 40 yX7_undo ∈ xWs := xin (i := 474) (by decide +kernel) (by decide +kernel)
theorem kp_instanceMethod_yX7_undo : Cond.instanceMethod yX7_undo ∈ xWs := xin (i := 475) (by decide +kernel) (by decide +kernel)
theorem kp_selects_yX7_undo : Cond.selects RX7 yX7_undo yX7_undo ∈ xWs := xin (i := 476) (by decide +kernel) (by decide +kernel)
theorem kp_code_yX7_undo : Cond.code yX7_undo cX7_undo 1 (some .int) ∈ xWs := xin (i := 477) (by decide +kernel) (by decide +kernel)
theorem km_X7_108 : Cond.methodLink RX7 108 yX0_pop ∈ xWs := xin (i := 478) (by decide +kernel) (by decide +kernel)
theorem kp_instanceMethod_yX0_pop : Cond.instanceMethod yX0_pop ∈ xWs := xin (i := 479) (by decide +kernel) (by decide +kernel)
theorem kp_selects_yX0_pop : Cond.selects RX0 yX0_pop yX0_pop ∈ xWs := xin (i := 480) (by decide +kernel) (by decide +kernel)
theorem kp_code_yX0_pop : Cond.code yX0_pop cX0_pop 4 none ∈ xWs := xin (i := 481) (by decide +kernel) (by decide +kernel)
theorem km_L_43 : Cond.methodLink RL 43 yX8_undo ∈ xWs := xin (i := 805) (by decide +kernel) (by decide +kernel)
theorem kp_instanceMethod_yX8_undo : Cond.instanceMethod yX8_undo ∈ xWs := xin (i := 806) (by decide +kernel) (by decide +kernel)
theorem kp_selects_yX8_undo : Cond.selects RX8 yX8_undo yX8_undo ∈ xWs := xin (i := 807) (by decide +kernel) (by decide +kernel)
theorem kp_code_yX8_undo : Cond.code yX8_undo cX8_undo 2 (some .int) ∈ xWs := xin (i := 808) (by decide +kernel) (by decide +kernel)
theorem km_L_44 : Cond.methodLink RL 44 yX7_count ∈ xWs := xin (i := 482) (by decide +kernel) (by decide +kernel)
theorem kp_instanceMethod_yX7_count : Cond.instanceMethod yX7_count ∈ xWs := xin (i := 483) (by decide +kernel) (by decide +kernel)
theorem kp_selects_yX7_count : Cond.selects RX7 yX7_count yX7_count ∈ xWs := xin (i := 484) (by decide +kernel) (by decide +kernel)
theorem kp_code_yX7_count : Cond.code yX7_count cX7_count 2 (some .int) ∈ xWs := xin (i := 485) (by decide +kernel) (by decide +kernel)
theorem km_L_47 : Cond.methodLink RL 47 yX8_count ∈ xWs := xin (i := 905) (by decide +kernel) (by decide +kernel)
theorem kp_instanceMethod_yX8_count : Cond.instanceMethod yX8_count ∈ xWs := xin (i := 906) (by decide +kernel) (by decide +kernel)
theorem kp_selects_yX8_count : Cond.selects RX8 yX8_count yX8_count ∈ xWs := xin (i := 907) (by decide +kernel) (by decide +kernel)
theorem kp_code_yX8_count : Cond.code yX8_count cX8_count 2 (some .int) ∈ xWs := xin (i := 908) (by decide +kernel) (by decide +kernel)
theorem km_L_48 : Cond.methodLink RL 48 yX7_program ∈ xWs := xin (i := 486) (by decide +kernel) (by decide +kernel)
theorem kp_instanceMethod_yX7_program : Cond.instanceMethod yX7_program ∈ xWs := xin (i := 487) (by decide +kernel) (by decide +kernel)
theorem kp_selects_yX7_program : Cond.selects RX7 yX7_program yX7_program ∈ xWs := xin (i := 488) (by decide +kernel) (by decide +kernel)
theorem kp_code_yX7_program : Cond.code yX7_program cX7_program 4 (some .int) ∈ xWs := xin (i := 489) (by decide +kernel) (by decide +kernel)
theorem km_X7_111 : Cond.methodLink RX7 111 yX1_tally ∈ xWs := xin (i := 490) (by decide +kernel) (by decide +kernel)
theorem kp_instanceMethod_yX1_tally : Cond.instanceMethod yX1_tally ∈ xWs := xin (i := 491) (by decide +kernel) (by decide +kernel)
theorem kp_selects_yX1_tally : Cond.selects RX1 yX1_tally yX1_tally ∈ xWs := xin (i := 492) (by decide +kernel) (by decide +kernel)
theorem kp_code_yX1_tally : Cond.code yX1_tally cX1_tally 4 (some .int) ∈ xWs := xin (i := 493) (by decide +kernel) (by decide +kernel)
theorem km_X7_115 : Cond.methodLink RX7 115 yX1_nesting ∈ xWs := xin (i := 494) (by decide +kernel) (by decide +kernel)
theorem kp_instanceMethod_yX1_nesting : Cond.instanceMethod yX1_nesting ∈ xWs := xin (i := 495) (by decide +kernel) (by decide +kernel)
theorem kp_selects_yX1_nesting : Cond.selects RX1 yX1_nesting yX1_nesting ∈ xWs := xin (i := 496) (by decide +kernel) (by decide +kernel)
theorem kp_code_yX1_nesting : Cond.code yX1_nesting cX1_nesting 3 (some .int) ∈ xWs := xin (i := 497) (by decide +kernel) (by decide +kernel)
theorem km_X1_91 : Cond.methodLink RX1 91 Lib.Math.max.name ∈ xWs := xin (i := 502) (by decide +kernel) (by decide +kernel)
theorem kp_static_Lib_Math_max_name : Cond.static Lib.Math.max.name ∈ xWs := xin (i := 503) (by decide +kernel) (by decide +kernel)
theorem kp_code_Lib_Math_max_name : Cond.code Lib.Math.max.name Lib.Math.max.code 2 (some .int) ∈ xWs := xin (i := 504) (by decide +kernel) (by decide +kernel)
theorem km_X1_88 : Cond.methodLink RX1 88 yX1_depthOf ∈ xWs := xin (i := 498) (by decide +kernel) (by decide +kernel)
theorem kp_instanceMethod_yX1_depthOf : Cond.instanceMethod yX1_depthOf ∈ xWs := xin (i := 500) (by decide +kernel) (by decide +kernel)
theorem kp_selects_yX1_depthOf : Cond.selects RX1 yX1_depthOf yX1_depthOf ∈ xWs := xin (i := 18) (by decide +kernel) (by decide +kernel)
theorem kp_code_yX1_depthOf : Cond.code yX1_depthOf cX1_depthOf 5 (some .int) ∈ xWs := xin (i := 501) (by decide +kernel) (by decide +kernel)
theorem km_X7_119 : Cond.methodLink RX7 119 yX1_settableCells ∈ xWs := xin (i := 505) (by decide +kernel) (by decide +kernel)
theorem kp_instanceMethod_yX1_settableCells : Cond.instanceMethod yX1_settableCells ∈ xWs := xin (i := 506) (by decide +kernel) (by decide +kernel)
theorem kp_selects_yX1_settableCells : Cond.selects RX1 yX1_settableCells yX1_settableCells ∈ xWs := xin (i := 507) (by decide +kernel) (by decide +kernel)
theorem kp_code_yX1_settableCells : Cond.code yX1_settableCells cX1_settableCells 3 (some .int) ∈ xWs := xin (i := 508) (by decide +kernel) (by decide +kernel)
theorem km_L_51 : Cond.methodLink RL 51 yX8_program ∈ xWs := xin (i := 909) (by decide +kernel) (by decide +kernel)
theorem kp_instanceMethod_yX8_program : Cond.instanceMethod yX8_program ∈ xWs := xin (i := 910) (by decide +kernel) (by decide +kernel)
theorem kp_selects_yX8_program : Cond.selects RX8 yX8_program yX8_program ∈ xWs := xin (i := 911) (by decide +kernel) (by decide +kernel)
theorem kp_code_yX8_program : Cond.code yX8_program cX8_program 3 (some .int) ∈ xWs := xin (i := 912) (by decide +kernel) (by decide +kernel)
theorem km_X8_137 : Cond.methodLink RX8 137 yX8_depthAll ∈ xWs := xin (i := 913) (by decide +kernel) (by decide +kernel)
theorem kp_instanceMethod_yX8_depthAll : Cond.instanceMethod yX8_depthAll ∈ xWs := xin (i := 915) (by decide +kernel) (by decide +kernel)
theorem kp_selects_yX8_depthAll : Cond.selects RX8 yX8_depthAll yX8_depthAll ∈ xWs := xin (i := 47) (by decide +kernel) (by decide +kernel)
theorem kp_code_yX8_depthAll : Cond.code yX8_depthAll cX8_depthAll 5 (some .int) ∈ xWs := xin (i := 916) (by decide +kernel) (by decide +kernel)
theorem km_X8_140 : Cond.methodLink RX8 140 yX8_canSet ∈ xWs := xin (i := 917) (by decide +kernel) (by decide +kernel)
theorem kp_instanceMethod_yX8_canSet : Cond.instanceMethod yX8_canSet ∈ xWs := xin (i := 919) (by decide +kernel) (by decide +kernel)
theorem kp_selects_yX8_canSet : Cond.selects RX8 yX8_canSet yX8_canSet ∈ xWs := xin (i := 48) (by decide +kernel) (by decide +kernel)
theorem kp_code_yX8_canSet : Cond.code yX8_canSet cX8_canSet 3 (some .int) ∈ xWs := xin (i := 920) (by decide +kernel) (by decide +kernel)
theorem km_X8_143 : Cond.methodLink RX8 143 yX8_ofKind ∈ xWs := xin (i := 921) (by decide +kernel) (by decide +kernel)
theorem kp_instanceMethod_yX8_ofKind : Cond.instanceMethod yX8_ofKind ∈ xWs := xin (i := 923) (by decide +kernel) (by decide +kernel)
theorem kp_selects_yX8_ofKind : Cond.selects RX8 yX8_ofKind yX8_ofKind ∈ xWs := xin (i := 49) (by decide +kernel) (by decide +kernel)
theorem kp_code_yX8_ofKind : Cond.code yX8_ofKind cX8_ofKind 4 (some .int) ∈ xWs := xin (i := 924) (by decide +kernel) (by decide +kernel)
theorem km_L_52 : Cond.methodLink RL 52 yX7_run ∈ xWs := xin (i := 509) (by decide +kernel) (by decide +kernel)
theorem kp_instanceMethod_yX7_run : Cond.instanceMethod yX7_run ∈ xWs := xin (i := 510) (by decide +kernel) (by decide +kernel)
theorem kp_selects_yX7_run : Cond.selects RX7 yX7_run yX7_run ∈ xWs := xin (i := 511) (by decide +kernel) (by decide +kernel)
theorem kp_code_yX7_run : Cond.code yX7_run cX7_run 6 (some .int) ∈ xWs := xin (i := 512) (by decide +kernel) (by decide +kernel)
theorem km_X7_122 : Cond.methodLink RX7 122 yX7_isInput ∈ xWs := xin (i := 513) (by decide +kernel) (by decide +kernel)
theorem kp_static_yX7_isInput : Cond.static yX7_isInput ∈ xWs := xin (i := 514) (by decide +kernel) (by decide +kernel)
theorem kp_code_yX7_isInput : Cond.code yX7_isInput cX7_isInput 2 (some .boolean) ∈ xWs := xin (i := 515) (by decide +kernel) (by decide +kernel)
theorem km_X7_126 : Cond.methodLink RX7 126 yX7_traceOf ∈ xWs := xin (i := 516) (by decide +kernel) (by decide +kernel)
theorem kp_instanceMethod_yX7_traceOf : Cond.instanceMethod yX7_traceOf ∈ xWs := xin (i := 518) (by decide +kernel) (by decide +kernel)
theorem kp_selects_yX7_traceOf : Cond.selects RX7 yX7_traceOf yX7_traceOf ∈ xWs := xin (i := 19) (by decide +kernel) (by decide +kernel)
theorem kp_code_yX7_traceOf : Cond.code yX7_traceOf cX7_traceOf 4 (some (.object "PairedSteps$Trace")) ∈ xWs := xin (i := 519) (by decide +kernel) (by decide +kernel)
theorem km_X7_212 : Cond.methodLink RX7 212 yX6_follow ∈ xWs := xin (i := 520) (by decide +kernel) (by decide +kernel)
theorem kp_instanceMethod_yX6_follow : Cond.instanceMethod yX6_follow ∈ xWs := xin (i := 521) (by decide +kernel) (by decide +kernel)
theorem kp_selects_yX6_follow : Cond.selects RX6 yX6_follow yX6_follow ∈ xWs := xin (i := 522) (by decide +kernel) (by decide +kernel)
theorem kp_code_yX6_follow : Cond.code yX6_follow cX6_follow 6 none ∈ xWs := xin (i := 523) (by decide +kernel) (by decide +kernel)
theorem kf_X6_45 : Cond.fieldLink RX6 45 "PairedSteps$Trace" "steps" "I" ∈ xWs := xin (i := 229) (by decide +kernel) (by decide +kernel)
theorem km_X6_31 : Cond.methodLink RX6 31 yX6_begin ∈ xWs := xin (i := 524) (by decide +kernel) (by decide +kernel)
theorem kp_instanceMethod_yX6_begin : Cond.instanceMethod yX6_begin ∈ xWs := xin (i := 526) (by decide +kernel) (by decide +kernel)
theorem kp_selects_yX6_begin : Cond.selects RX6 yX6_begin yX6_begin ∈ xWs := xin (i := 20) (by decide +kernel) (by decide +kernel)
theorem kp_code_yX6_begin : Cond.code yX6_begin cX6_begin 4 none ∈ xWs := xin (i := 527) (by decide +kernel) (by decide +kernel)
theorem kf_X6_55 : Cond.fieldLink RX6 55 "PairedSteps$Trace" "marks" "I" ∈ xWs := xin (i := 231) (by decide +kernel) (by decide +kernel)
theorem kf_X6_58 : Cond.fieldLink RX6 58 "PairedSteps$Trace" "rounds" "I" ∈ xWs := xin (i := 233) (by decide +kernel) (by decide +kernel)
theorem kf_X6_61 : Cond.fieldLink RX6 61 "PairedSteps$Trace" "mostRounds" "I" ∈ xWs := xin (i := 235) (by decide +kernel) (by decide +kernel)
theorem km_X6_53 : Cond.methodLink RX6 53 yX2_begin ∈ xWs := xin (i := 528) (by decide +kernel) (by decide +kernel)
theorem kp_instanceMethod_yX2_begin : Cond.instanceMethod yX2_begin ∈ xWs := xin (i := 529) (by decide +kernel) (by decide +kernel)
theorem kp_selects_yX2_begin : Cond.selects RX2 yX2_begin yX2_begin ∈ xWs := xin (i := 530) (by decide +kernel) (by decide +kernel)
theorem kp_code_yX2_begin : Cond.code yX2_begin cX2_begin 1 none ∈ xWs := xin (i := 531) (by decide +kernel) (by decide +kernel)
theorem kf_X2_15 : Cond.fieldLink RX2 15 "PairedSteps$Output" "total" "I" ∈ xWs := xin (i := 209) (by decide +kernel) (by decide +kernel)
theorem km_X6_35 : Cond.methodLink RX6 35 yX1_holds ∈ xWs := xin (i := 532) (by decide +kernel) (by decide +kernel)
theorem km_X6_41 : Cond.methodLink RX6 41 yX6_stepFrom ∈ xWs := xin (i := 533) (by decide +kernel) (by decide +kernel)
theorem kp_instanceMethod_yX6_stepFrom : Cond.instanceMethod yX6_stepFrom ∈ xWs := xin (i := 535) (by decide +kernel) (by decide +kernel)
theorem kp_selects_yX6_stepFrom : Cond.selects RX6 yX6_stepFrom yX6_stepFrom ∈ xWs := xin (i := 21) (by decide +kernel) (by decide +kernel)
theorem kp_code_yX6_stepFrom : Cond.code yX6_stepFrom cX6_stepFrom 3 (some .int) ∈ xWs := xin (i := 536) (by decide +kernel) (by decide +kernel)
theorem km_X6_64 : Cond.methodLink RX6 64 yX1_kindOf ∈ xWs := xin (i := 537) (by decide +kernel) (by decide +kernel)
theorem kp_instanceMethod_yX1_kindOf : Cond.instanceMethod yX1_kindOf ∈ xWs := xin (i := 538) (by decide +kernel) (by decide +kernel)
theorem kp_selects_yX1_kindOf : Cond.selects RX1 yX1_kindOf yX1_kindOf ∈ xWs := xin (i := 539) (by decide +kernel) (by decide +kernel)
theorem kp_code_yX1_kindOf : Cond.code yX1_kindOf cX1_kindOf 2 (some .int) ∈ xWs := xin (i := 540) (by decide +kernel) (by decide +kernel)
theorem km_X6_68 : Cond.methodLink RX6 68 yX1_targetOf ∈ xWs := xin (i := 541) (by decide +kernel) (by decide +kernel)
theorem kp_instanceMethod_yX1_targetOf : Cond.instanceMethod yX1_targetOf ∈ xWs := xin (i := 542) (by decide +kernel) (by decide +kernel)
theorem kp_selects_yX1_targetOf : Cond.selects RX1 yX1_targetOf yX1_targetOf ∈ xWs := xin (i := 543) (by decide +kernel) (by decide +kernel)
theorem kp_code_yX1_targetOf : Cond.code yX1_targetOf cX1_targetOf 2 (some .int) ∈ xWs := xin (i := 544) (by decide +kernel) (by decide +kernel)
theorem km_X6_71 : Cond.methodLink RX6 71 yX6_resultOf ∈ xWs := xin (i := 545) (by decide +kernel) (by decide +kernel)
theorem kp_instanceMethod_yX6_resultOf : Cond.instanceMethod yX6_resultOf ∈ xWs := xin (i := 547) (by decide +kernel) (by decide +kernel)
theorem kp_selects_yX6_resultOf : Cond.selects RX6 yX6_resultOf yX6_resultOf ∈ xWs := xin (i := 22) (by decide +kernel) (by decide +kernel)
theorem kp_code_yX6_resultOf : Cond.code yX6_resultOf cX6_resultOf 5 (some .int) ∈ xWs := xin (i := 548) (by decide +kernel) (by decide +kernel)
theorem km_X6_109 : Cond.methodLink RX6 109 yX1_leftOf ∈ xWs := xin (i := 549) (by decide +kernel) (by decide +kernel)
theorem kp_instanceMethod_yX1_leftOf : Cond.instanceMethod yX1_leftOf ∈ xWs := xin (i := 550) (by decide +kernel) (by decide +kernel)
theorem kp_selects_yX1_leftOf : Cond.selects RX1 yX1_leftOf yX1_leftOf ∈ xWs := xin (i := 551) (by decide +kernel) (by decide +kernel)
theorem kp_code_yX1_leftOf : Cond.code yX1_leftOf cX1_leftOf 2 (some .int) ∈ xWs := xin (i := 552) (by decide +kernel) (by decide +kernel)
theorem km_X6_112 : Cond.methodLink RX6 112 yX6_termValue ∈ xWs := xin (i := 553) (by decide +kernel) (by decide +kernel)
theorem kp_instanceMethod_yX6_termValue : Cond.instanceMethod yX6_termValue ∈ xWs := xin (i := 555) (by decide +kernel) (by decide +kernel)
theorem kp_selects_yX6_termValue : Cond.selects RX6 yX6_termValue yX6_termValue ∈ xWs := xin (i := 23) (by decide +kernel) (by decide +kernel)
theorem kp_code_yX6_termValue : Cond.code yX6_termValue cX6_termValue 2 (some .int) ∈ xWs := xin (i := 556) (by decide +kernel) (by decide +kernel)
theorem km_X6_80 : Cond.methodLink RX6 80 yX6_valueOf ∈ xWs := xin (i := 557) (by decide +kernel) (by decide +kernel)
theorem kp_instanceMethod_yX6_valueOf : Cond.instanceMethod yX6_valueOf ∈ xWs := xin (i := 558) (by decide +kernel) (by decide +kernel)
theorem kp_selects_yX6_valueOf : Cond.selects RX6 yX6_valueOf yX6_valueOf ∈ xWs := xin (i := 559) (by decide +kernel) (by decide +kernel)
theorem kp_code_yX6_valueOf : Cond.code yX6_valueOf cX6_valueOf 2 (some .int) ∈ xWs := xin (i := 560) (by decide +kernel) (by decide +kernel)
theorem km_X6_115 : Cond.methodLink RX6 115 yX1_rightOf ∈ xWs := xin (i := 562) (by decide +kernel) (by decide +kernel)
theorem kp_instanceMethod_yX1_rightOf : Cond.instanceMethod yX1_rightOf ∈ xWs := xin (i := 563) (by decide +kernel) (by decide +kernel)
theorem kp_selects_yX1_rightOf : Cond.selects RX1 yX1_rightOf yX1_rightOf ∈ xWs := xin (i := 564) (by decide +kernel) (by decide +kernel)
theorem kp_code_yX1_rightOf : Cond.code yX1_rightOf cX1_rightOf 2 (some .int) ∈ xWs := xin (i := 565) (by decide +kernel) (by decide +kernel)
theorem km_X6_118 : Cond.methodLink RX6 118 yX1_operatorOf ∈ xWs := xin (i := 566) (by decide +kernel) (by decide +kernel)
theorem kp_instanceMethod_yX1_operatorOf : Cond.instanceMethod yX1_operatorOf ∈ xWs := xin (i := 567) (by decide +kernel) (by decide +kernel)
theorem kp_selects_yX1_operatorOf : Cond.selects RX1 yX1_operatorOf yX1_operatorOf ∈ xWs := xin (i := 568) (by decide +kernel) (by decide +kernel)
theorem kp_code_yX1_operatorOf : Cond.code yX1_operatorOf cX1_operatorOf 2 (some .int) ∈ xWs := xin (i := 569) (by decide +kernel) (by decide +kernel)
theorem km_X6_121 : Cond.methodLink RX6 121 yX6_nearestValue ∈ xWs := xin (i := 570) (by decide +kernel) (by decide +kernel)
theorem kp_static_yX6_nearestValue : Cond.static yX6_nearestValue ∈ xWs := xin (i := 571) (by decide +kernel) (by decide +kernel)
theorem kp_code_yX6_nearestValue : Cond.code yX6_nearestValue cX6_nearestValue 1 (some .int) ∈ xWs := xin (i := 572) (by decide +kernel) (by decide +kernel)
theorem km_X6_124 : Cond.methodLink RX6 124 Lib.Math.min.name ∈ xWs := xin (i := 573) (by decide +kernel) (by decide +kernel)
theorem km_X6_103 : Cond.methodLink RX6 103 Lib.Math.max.name ∈ xWs := xin (i := 574) (by decide +kernel) (by decide +kernel)
theorem km_X6_74 : Cond.methodLink RX6 74 yX6_setCell ∈ xWs := xin (i := 575) (by decide +kernel) (by decide +kernel)
theorem kp_instanceMethod_yX6_setCell : Cond.instanceMethod yX6_setCell ∈ xWs := xin (i := 577) (by decide +kernel) (by decide +kernel)
theorem kp_selects_yX6_setCell : Cond.selects RX6 yX6_setCell yX6_setCell ∈ xWs := xin (i := 24) (by decide +kernel) (by decide +kernel)
theorem kp_code_yX6_setCell : Cond.code yX6_setCell cX6_setCell 3 none ∈ xWs := xin (i := 578) (by decide +kernel) (by decide +kernel)
theorem km_X6_77 : Cond.methodLink RX6 77 yX1_followerAt ∈ xWs := xin (i := 579) (by decide +kernel) (by decide +kernel)
theorem kp_instanceMethod_yX1_followerAt : Cond.instanceMethod yX1_followerAt ∈ xWs := xin (i := 580) (by decide +kernel) (by decide +kernel)
theorem kp_selects_yX1_followerAt : Cond.selects RX1 yX1_followerAt yX1_followerAt ∈ xWs := xin (i := 581) (by decide +kernel) (by decide +kernel)
theorem kp_code_yX1_followerAt : Cond.code yX1_followerAt cX1_followerAt 2 (some .int) ∈ xWs := xin (i := 582) (by decide +kernel) (by decide +kernel)
theorem km_X6_83 : Cond.methodLink RX6 83 yX2_add ∈ xWs := xin (i := 583) (by decide +kernel) (by decide +kernel)
theorem kp_instanceMethod_yX2_add : Cond.instanceMethod yX2_add ∈ xWs := xin (i := 584) (by decide +kernel) (by decide +kernel)
theorem kp_selects_yX2_add : Cond.selects RX2 yX2_add yX2_add ∈ xWs := xin (i := 585) (by decide +kernel) (by decide +kernel)
theorem kp_code_yX2_add : Cond.code yX2_add cX2_add 2 none ∈ xWs := xin (i := 586) (by decide +kernel) (by decide +kernel)
theorem km_X6_87 : Cond.methodLink RX6 87 yX6_keepMark ∈ xWs := xin (i := 588) (by decide +kernel) (by decide +kernel)
theorem kp_instanceMethod_yX6_keepMark : Cond.instanceMethod yX6_keepMark ∈ xWs := xin (i := 590) (by decide +kernel) (by decide +kernel)
theorem kp_selects_yX6_keepMark : Cond.selects RX6 yX6_keepMark yX6_keepMark ∈ xWs := xin (i := 25) (by decide +kernel) (by decide +kernel)
theorem kp_code_yX6_keepMark : Cond.code yX6_keepMark cX6_keepMark 1 none ∈ xWs := xin (i := 591) (by decide +kernel) (by decide +kernel)
theorem km_X6_130 : Cond.methodLink RX6 130 arraycopyName ∈ xWs := xin (i := 593) (by decide +kernel) (by decide +kernel)
theorem km_X6_90 : Cond.methodLink RX6 90 yX6_look ∈ xWs := xin (i := 594) (by decide +kernel) (by decide +kernel)
theorem kp_instanceMethod_yX6_look : Cond.instanceMethod yX6_look ∈ xWs := xin (i := 596) (by decide +kernel) (by decide +kernel)
theorem kp_selects_yX6_look : Cond.selects RX6 yX6_look yX6_look ∈ xWs := xin (i := 26) (by decide +kernel) (by decide +kernel)
theorem kp_code_yX6_look : Cond.code yX6_look cX6_look 4 (some .int) ∈ xWs := xin (i := 597) (by decide +kernel) (by decide +kernel)
theorem km_X6_93 : Cond.methodLink RX6 93 yX1_entered ∈ xWs := xin (i := 598) (by decide +kernel) (by decide +kernel)
theorem kp_instanceMethod_yX1_entered : Cond.instanceMethod yX1_entered ∈ xWs := xin (i := 599) (by decide +kernel) (by decide +kernel)
theorem kp_selects_yX1_entered : Cond.selects RX1 yX1_entered yX1_entered ∈ xWs := xin (i := 600) (by decide +kernel) (by decide +kernel)
theorem kp_code_yX1_entered : Cond.code yX1_entered cX1_entered 2 (some .int) ∈ xWs := xin (i := 601) (by decide +kernel) (by decide +kernel)
theorem km_X1_82 : Cond.methodLink RX1 82 yX1_kindOf ∈ xWs := xin (i := 602) (by decide +kernel) (by decide +kernel)
theorem km_X1_85 : Cond.methodLink RX1 85 yX1_followerAt ∈ xWs := xin (i := 603) (by decide +kernel) (by decide +kernel)
theorem km_X6_96 : Cond.methodLink RX6 96 yX1_passed ∈ xWs := xin (i := 604) (by decide +kernel) (by decide +kernel)
theorem kp_instanceMethod_yX1_passed : Cond.instanceMethod yX1_passed ∈ xWs := xin (i := 605) (by decide +kernel) (by decide +kernel)
theorem kp_selects_yX1_passed : Cond.selects RX1 yX1_passed yX1_passed ∈ xWs := xin (i := 606) (by decide +kernel) (by decide +kernel)
theorem kp_code_yX1_passed : Cond.code yX1_passed cX1_passed 3 (some .int) ∈ xWs := xin (i := 607) (by decide +kernel) (by decide +kernel)
theorem km_L_56 : Cond.methodLink RL 56 yX8_run ∈ xWs := xin (i := 925) (by decide +kernel) (by decide +kernel)
theorem kp_instanceMethod_yX8_run : Cond.instanceMethod yX8_run ∈ xWs := xin (i := 926) (by decide +kernel) (by decide +kernel)
theorem kp_selects_yX8_run : Cond.selects RX8 yX8_run yX8_run ∈ xWs := xin (i := 927) (by decide +kernel) (by decide +kernel)
theorem kp_code_yX8_run : Cond.code yX8_run cX8_run 5 (some .int) ∈ xWs := xin (i := 928) (by decide +kernel) (by decide +kernel)
theorem km_X8_171 : Cond.methodLink RX8 171 yX8_isInput ∈ xWs := xin (i := 929) (by decide +kernel) (by decide +kernel)
theorem kp_static_yX8_isInput : Cond.static yX8_isInput ∈ xWs := xin (i := 930) (by decide +kernel) (by decide +kernel)
theorem kp_code_yX8_isInput : Cond.code yX8_isInput cX8_isInput 2 (some .boolean) ∈ xWs := xin (i := 931) (by decide +kernel) (by decide +kernel)
theorem km_X8_174 : Cond.methodLink RX8 174 yX8_runsOne ∈ xWs := xin (i := 932) (by decide +kernel) (by decide +kernel)
theorem kp_instanceMethod_yX8_runsOne : Cond.instanceMethod yX8_runsOne ∈ xWs := xin (i := 934) (by decide +kernel) (by decide +kernel)
theorem kp_selects_yX8_runsOne : Cond.selects RX8 yX8_runsOne yX8_runsOne ∈ xWs := xin (i := 50) (by decide +kernel) (by decide +kernel)
theorem kp_code_yX8_runsOne : Cond.code yX8_runsOne cX8_runsOne 4 none ∈ xWs := xin (i := 935) (by decide +kernel) (by decide +kernel)
theorem km_X8_168 : Cond.methodLink RX8 168 yX8_runs ∈ xWs := xin (i := 936) (by decide +kernel) (by decide +kernel)
theorem kp_instanceMethod_yX8_runs : Cond.instanceMethod yX8_runs ∈ xWs := xin (i := 938) (by decide +kernel) (by decide +kernel)
theorem kp_selects_yX8_runs : Cond.selects RX8 yX8_runs yX8_runs ∈ xWs := xin (i := 51) (by decide +kernel) (by decide +kernel)
theorem kp_code_yX8_runs : Cond.code yX8_runs cX8_runs 10 none ∈ xWs := xin (i := 939) (by decide +kernel) (by decide +kernel)
theorem km_X8_152 : Cond.methodLink RX8 152 yX8_roundOf ∈ xWs := xin (i := 940) (by decide +kernel) (by decide +kernel)
theorem kp_instanceMethod_yX8_roundOf : Cond.instanceMethod yX8_roundOf ∈ xWs := xin (i := 942) (by decide +kernel) (by decide +kernel)
theorem kp_selects_yX8_roundOf : Cond.selects RX8 yX8_roundOf yX8_roundOf ∈ xWs := xin (i := 52) (by decide +kernel) (by decide +kernel)
theorem kp_code_yX8_roundOf : Cond.code yX8_roundOf cX8_roundOf 3 none ∈ xWs := xin (i := 943) (by decide +kernel) (by decide +kernel)
theorem km_X8_156 : Cond.methodLink RX8 156 yX8_does ∈ xWs := xin (i := 944) (by decide +kernel) (by decide +kernel)
theorem kp_instanceMethod_yX8_does : Cond.instanceMethod yX8_does ∈ xWs := xin (i := 946) (by decide +kernel) (by decide +kernel)
theorem kp_selects_yX8_does : Cond.selects RX8 yX8_does yX8_does ∈ xWs := xin (i := 53) (by decide +kernel) (by decide +kernel)
theorem kp_code_yX8_does : Cond.code yX8_does cX8_does 4 none ∈ xWs := xin (i := 947) (by decide +kernel) (by decide +kernel)
theorem km_X8_159 : Cond.methodLink RX8 159 yX8_sets ∈ xWs := xin (i := 948) (by decide +kernel) (by decide +kernel)
theorem kp_instanceMethod_yX8_sets : Cond.instanceMethod yX8_sets ∈ xWs := xin (i := 950) (by decide +kernel) (by decide +kernel)
theorem kp_selects_yX8_sets : Cond.selects RX8 yX8_sets yX8_sets ∈ xWs := xin (i := 54) (by decide +kernel) (by decide +kernel)
theorem kp_code_yX8_sets : Cond.code yX8_sets cX8_sets 7 none ∈ xWs := xin (i := 951) (by decide +kernel) (by decide +kernel)
theorem km_X8_146 : Cond.methodLink RX8 146 yX8_term ∈ xWs := xin (i := 952) (by decide +kernel) (by decide +kernel)
theorem kp_instanceMethod_yX8_term : Cond.instanceMethod yX8_term ∈ xWs := xin (i := 954) (by decide +kernel) (by decide +kernel)
theorem kp_selects_yX8_term : Cond.selects RX8 yX8_term yX8_term ∈ xWs := xin (i := 55) (by decide +kernel) (by decide +kernel)
theorem kp_code_yX8_term : Cond.code yX8_term cX8_term 3 (some .int) ∈ xWs := xin (i := 955) (by decide +kernel) (by decide +kernel)
theorem km_X8_149 : Cond.methodLink RX8 149 yX8_held ∈ xWs := xin (i := 956) (by decide +kernel) (by decide +kernel)
theorem kp_static_yX8_held : Cond.static yX8_held ∈ xWs := xin (i := 957) (by decide +kernel) (by decide +kernel)
theorem kp_code_yX8_held : Cond.code yX8_held cX8_held 1 (some .int) ∈ xWs := xin (i := 958) (by decide +kernel) (by decide +kernel)
theorem km_X8_162 : Cond.methodLink RX8 162 yX8_tellsCell ∈ xWs := xin (i := 959) (by decide +kernel) (by decide +kernel)
theorem kp_instanceMethod_yX8_tellsCell : Cond.instanceMethod yX8_tellsCell ∈ xWs := xin (i := 961) (by decide +kernel) (by decide +kernel)
theorem kp_selects_yX8_tellsCell : Cond.selects RX8 yX8_tellsCell yX8_tellsCell ∈ xWs := xin (i := 56) (by decide +kernel) (by decide +kernel)
theorem kp_code_yX8_tellsCell : Cond.code yX8_tellsCell cX8_tellsCell 4 none ∈ xWs := xin (i := 962) (by decide +kernel) (by decide +kernel)
theorem km_X8_165 : Cond.methodLink RX8 165 yX8_marks ∈ xWs := xin (i := 963) (by decide +kernel) (by decide +kernel)
theorem kp_instanceMethod_yX8_marks : Cond.instanceMethod yX8_marks ∈ xWs := xin (i := 965) (by decide +kernel) (by decide +kernel)
theorem kp_selects_yX8_marks : Cond.selects RX8 yX8_marks yX8_marks ∈ xWs := xin (i := 57) (by decide +kernel) (by decide +kernel)
theorem kp_code_yX8_marks : Cond.code yX8_marks cX8_marks 4 none ∈ xWs := xin (i := 966) (by decide +kernel) (by decide +kernel)
theorem km_L_57 : Cond.methodLink RL 57 yX7_told ∈ xWs := xin (i := 608) (by decide +kernel) (by decide +kernel)
theorem kp_instanceMethod_yX7_told : Cond.instanceMethod yX7_told ∈ xWs := xin (i := 609) (by decide +kernel) (by decide +kernel)
theorem kp_selects_yX7_told : Cond.selects RX7 yX7_told yX7_told ∈ xWs := xin (i := 610) (by decide +kernel) (by decide +kernel)
theorem kp_code_yX7_told : Cond.code yX7_told cX7_told 5 (some .int) ∈ xWs := xin (i := 611) (by decide +kernel) (by decide +kernel)
theorem km_X7_155 : Cond.methodLink RX7 155 yX2_valueAt ∈ xWs := xin (i := 612) (by decide +kernel) (by decide +kernel)
theorem kp_instanceMethod_yX2_valueAt : Cond.instanceMethod yX2_valueAt ∈ xWs := xin (i := 613) (by decide +kernel) (by decide +kernel)
theorem kp_selects_yX2_valueAt : Cond.selects RX2 yX2_valueAt yX2_valueAt ∈ xWs := xin (i := 614) (by decide +kernel) (by decide +kernel)
theorem kp_code_yX2_valueAt : Cond.code yX2_valueAt cX2_valueAt 2 (some .int) ∈ xWs := xin (i := 615) (by decide +kernel) (by decide +kernel)
theorem km_X2_33 : Cond.methodLink RX2 33 Lib.Math.min.name ∈ xWs := xin (i := 616) (by decide +kernel) (by decide +kernel)
theorem km_L_60 : Cond.methodLink RL 60 yX8_told ∈ xWs := xin (i := 967) (by decide +kernel) (by decide +kernel)
theorem kp_instanceMethod_yX8_told : Cond.instanceMethod yX8_told ∈ xWs := xin (i := 968) (by decide +kernel) (by decide +kernel)
theorem kp_selects_yX8_told : Cond.selects RX8 yX8_told yX8_told ∈ xWs := xin (i := 969) (by decide +kernel) (by decide +kernel)
theorem kp_code_yX8_told : Cond.code yX8_told cX8_told 5 (some .int) ∈ xWs := xin (i := 970) (by decide +kernel) (by decide +kernel)
theorem km_X8_177 : Cond.methodLink RX8 177 yX8_least ∈ xWs := xin (i := 971) (by decide +kernel) (by decide +kernel)
theorem kp_static_yX8_least : Cond.static yX8_least ∈ xWs := xin (i := 972) (by decide +kernel) (by decide +kernel)
theorem kp_code_yX8_least : Cond.code yX8_least cX8_least 2 (some .int) ∈ xWs := xin (i := 973) (by decide +kernel) (by decide +kernel)
theorem km_L_61 : Cond.methodLink RL 61 yX7_cell ∈ xWs := xin (i := 617) (by decide +kernel) (by decide +kernel)
theorem kp_instanceMethod_yX7_cell : Cond.instanceMethod yX7_cell ∈ xWs := xin (i := 618) (by decide +kernel) (by decide +kernel)
theorem kp_selects_yX7_cell : Cond.selects RX7 yX7_cell yX7_cell ∈ xWs := xin (i := 619) (by decide +kernel) (by decide +kernel)
theorem kp_code_yX7_cell : Cond.code yX7_cell cX7_cell 7 (some .int) ∈ xWs := xin (i := 620) (by decide +kernel) (by decide +kernel)
theorem km_X7_158 : Cond.methodLink RX7 158 yX7_isCell ∈ xWs := xin (i := 621) (by decide +kernel) (by decide +kernel)
theorem km_X7_161 : Cond.methodLink RX7 161 yX6_valueOf ∈ xWs := xin (i := 622) (by decide +kernel) (by decide +kernel)
theorem km_X7_164 : Cond.methodLink RX7 164 yX6_cellAtMark ∈ xWs := xin (i := 623) (by decide +kernel) (by decide +kernel)
theorem kp_instanceMethod_yX6_cellAtMark : Cond.instanceMethod yX6_cellAtMark ∈ xWs := xin (i := 624) (by decide +kernel) (by decide +kernel)
theorem kp_selects_yX6_cellAtMark : Cond.selects RX6 yX6_cellAtMark yX6_cellAtMark ∈ xWs := xin (i := 625) (by decide +kernel) (by decide +kernel)
theorem kp_code_yX6_cellAtMark : Cond.code yX6_cellAtMark cX6_cellAtMark 4 (some .int) ∈ xWs := xin (i := 626) (by decide +kernel) (by decide +kernel)
theorem km_X6_136 : Cond.methodLink RX6 136 yX6_marksKept ∈ xWs := xin (i := 627) (by decide +kernel) (by decide +kernel)
theorem kp_instanceMethod_yX6_marksKept : Cond.instanceMethod yX6_marksKept ∈ xWs := xin (i := 628) (by decide +kernel) (by decide +kernel)
theorem kp_selects_yX6_marksKept : Cond.selects RX6 yX6_marksKept yX6_marksKept ∈ xWs := xin (i := 629) (by decide +kernel) (by decide +kernel)
theorem kp_code_yX6_marksKept : Cond.code yX6_marksKept cX6_marksKept 1 (some .int) ∈ xWs := xin (i := 630) (by decide +kernel) (by decide +kernel)
theorem km_L_65 : Cond.methodLink RL 65 yX8_cell ∈ xWs := xin (i := 974) (by decide +kernel) (by decide +kernel)
theorem kp_instanceMethod_yX8_cell : Cond.instanceMethod yX8_cell ∈ xWs := xin (i := 975) (by decide +kernel) (by decide +kernel)
theorem kp_selects_yX8_cell : Cond.selects RX8 yX8_cell yX8_cell ∈ xWs := xin (i := 976) (by decide +kernel) (by decide +kernel)
theorem kp_code_yX8_cell : Cond.code yX8_cell cX8_cell 6 (some .int) ∈ xWs := xin (i := 977) (by decide +kernel) (by decide +kernel)
theorem km_X8_180 : Cond.methodLink RX8 180 yX8_isCell ∈ xWs := xin (i := 978) (by decide +kernel) (by decide +kernel)
theorem kp_static_yX8_isCell : Cond.static yX8_isCell ∈ xWs := xin (i := 979) (by decide +kernel) (by decide +kernel)
theorem kp_code_yX8_isCell : Cond.code yX8_isCell cX8_isCell 1 (some .boolean) ∈ xWs := xin (i := 980) (by decide +kernel) (by decide +kernel)
theorem km_L_66 : Cond.methodLink RL 66 yX7_pairs ∈ xWs := xin (i := 631) (by decide +kernel) (by decide +kernel)
theorem kp_instanceMethod_yX7_pairs : Cond.instanceMethod yX7_pairs ∈ xWs := xin (i := 632) (by decide +kernel) (by decide +kernel)
theorem kp_selects_yX7_pairs : Cond.selects RX7 yX7_pairs yX7_pairs ∈ xWs := xin (i := 633) (by decide +kernel) (by decide +kernel)
theorem kp_code_yX7_pairs : Cond.code yX7_pairs cX7_pairs 4 (some .int) ∈ xWs := xin (i := 634) (by decide +kernel) (by decide +kernel)
theorem km_X7_168 : Cond.methodLink RX7 168 yX4_follow ∈ xWs := xin (i := 635) (by decide +kernel) (by decide +kernel)
theorem kp_instanceMethod_yX4_follow : Cond.instanceMethod yX4_follow ∈ xWs := xin (i := 636) (by decide +kernel) (by decide +kernel)
theorem kp_selects_yX4_follow : Cond.selects RX4 yX4_follow yX4_follow ∈ xWs := xin (i := 637) (by decide +kernel) (by decide +kernel)
theorem kp_code_yX4_follow : Cond.code yX4_follow cX4_follow 5 none ∈ xWs := xin (i := 638) (by decide +kernel) (by decide +kernel)
theorem km_X4_21 : Cond.methodLink RX4 21 yX6_follow ∈ xWs := xin (i := 639) (by decide +kernel) (by decide +kernel)
theorem km_X7_172 : Cond.methodLink RX7 172 yX4_pairsKept ∈ xWs := xin (i := 640) (by decide +kernel) (by decide +kernel)
theorem kp_instanceMethod_yX4_pairsKept : Cond.instanceMethod yX4_pairsKept ∈ xWs := xin (i := 641) (by decide +kernel) (by decide +kernel)
theorem kp_selects_yX4_pairsKept : Cond.selects RX4 yX4_pairsKept yX4_pairsKept ∈ xWs := xin (i := 642) (by decide +kernel) (by decide +kernel)
theorem kp_code_yX4_pairsKept : Cond.code yX4_pairsKept cX4_pairsKept 1 (some .int) ∈ xWs := xin (i := 643) (by decide +kernel) (by decide +kernel)
theorem km_X4_29 : Cond.methodLink RX4 29 Lib.Math.min.name ∈ xWs := xin (i := 645) (by decide +kernel) (by decide +kernel)
theorem km_X4_25 : Cond.methodLink RX4 25 yX6_marksKept ∈ xWs := xin (i := 644) (by decide +kernel) (by decide +kernel)
theorem km_X7_175 : Cond.methodLink RX7 175 yX4_greatestLead ∈ xWs := xin (i := 646) (by decide +kernel) (by decide +kernel)
theorem kp_instanceMethod_yX4_greatestLead : Cond.instanceMethod yX4_greatestLead ∈ xWs := xin (i := 647) (by decide +kernel) (by decide +kernel)
theorem kp_selects_yX4_greatestLead : Cond.selects RX4 yX4_greatestLead yX4_greatestLead ∈ xWs := xin (i := 648) (by decide +kernel) (by decide +kernel)
theorem kp_code_yX4_greatestLead : Cond.code yX4_greatestLead cX4_greatestLead 4 (some .int) ∈ xWs := xin (i := 649) (by decide +kernel) (by decide +kernel)
theorem km_X4_45 : Cond.methodLink RX4 45 Lib.Math.abs.name ∈ xWs := xin (i := 659) (by decide +kernel) (by decide +kernel)
theorem kp_static_Lib_Math_abs_name : Cond.static Lib.Math.abs.name ∈ xWs := xin (i := 660) (by decide +kernel) (by decide +kernel)
theorem kp_code_Lib_Math_abs_name : Cond.code Lib.Math.abs.name Lib.Math.abs.code 1 (some .int) ∈ xWs := xin (i := 661) (by decide +kernel) (by decide +kernel)
theorem km_X4_48 : Cond.methodLink RX4 48 Lib.Math.max.name ∈ xWs := xin (i := 662) (by decide +kernel) (by decide +kernel)
theorem km_X4_39 : Cond.methodLink RX4 39 yX4_pairsKept ∈ xWs := xin (i := 650) (by decide +kernel) (by decide +kernel)
theorem km_X4_42 : Cond.methodLink RX4 42 yX4_leadAt ∈ xWs := xin (i := 651) (by decide +kernel) (by decide +kernel)
theorem kp_instanceMethod_yX4_leadAt : Cond.instanceMethod yX4_leadAt ∈ xWs := xin (i := 653) (by decide +kernel) (by decide +kernel)
theorem kp_selects_yX4_leadAt : Cond.selects RX4 yX4_leadAt yX4_leadAt ∈ xWs := xin (i := 27) (by decide +kernel) (by decide +kernel)
theorem kp_code_yX4_leadAt : Cond.code yX4_leadAt cX4_leadAt 2 (some .int) ∈ xWs := xin (i := 654) (by decide +kernel) (by decide +kernel)
theorem km_X4_35 : Cond.methodLink RX4 35 yX6_stepsAheadOf ∈ xWs := xin (i := 655) (by decide +kernel) (by decide +kernel)
theorem kp_instanceMethod_yX6_stepsAheadOf : Cond.instanceMethod yX6_stepsAheadOf ∈ xWs := xin (i := 656) (by decide +kernel) (by decide +kernel)
theorem kp_selects_yX6_stepsAheadOf : Cond.selects RX6 yX6_stepsAheadOf yX6_stepsAheadOf ∈ xWs := xin (i := 657) (by decide +kernel) (by decide +kernel)
theorem kp_code_yX6_stepsAheadOf : Cond.code yX6_stepsAheadOf cX6_stepsAheadOf 2 (some .int) ∈ xWs := xin (i := 658) (by decide +kernel) (by decide +kernel)
theorem km_X7_178 : Cond.methodLink RX7 178 yX4_lastLead ∈ xWs := xin (i := 663) (by decide +kernel) (by decide +kernel)
theorem kp_instanceMethod_yX4_lastLead : Cond.instanceMethod yX4_lastLead ∈ xWs := xin (i := 664) (by decide +kernel) (by decide +kernel)
theorem kp_selects_yX4_lastLead : Cond.selects RX4 yX4_lastLead yX4_lastLead ∈ xWs := xin (i := 665) (by decide +kernel) (by decide +kernel)
theorem kp_code_yX4_lastLead : Cond.code yX4_lastLead cX4_lastLead 2 (some .int) ∈ xWs := xin (i := 666) (by decide +kernel) (by decide +kernel)
theorem km_X7_181 : Cond.methodLink RX7 181 yX4_evenPairs ∈ xWs := xin (i := 667) (by decide +kernel) (by decide +kernel)
theorem kp_instanceMethod_yX4_evenPairs : Cond.instanceMethod yX4_evenPairs ∈ xWs := xin (i := 668) (by decide +kernel) (by decide +kernel)
theorem kp_selects_yX4_evenPairs : Cond.selects RX4 yX4_evenPairs yX4_evenPairs ∈ xWs := xin (i := 669) (by decide +kernel) (by decide +kernel)
theorem kp_code_yX4_evenPairs : Cond.code yX4_evenPairs cX4_evenPairs 4 (some .int) ∈ xWs := xin (i := 670) (by decide +kernel) (by decide +kernel)
theorem km_X4_51 : Cond.methodLink RX4 51 yX4_isEven ∈ xWs := xin (i := 671) (by decide +kernel) (by decide +kernel)
theorem kp_instanceMethod_yX4_isEven : Cond.instanceMethod yX4_isEven ∈ xWs := xin (i := 673) (by decide +kernel) (by decide +kernel)
theorem kp_selects_yX4_isEven : Cond.selects RX4 yX4_isEven yX4_isEven ∈ xWs := xin (i := 28) (by decide +kernel) (by decide +kernel)
theorem kp_code_yX4_isEven : Cond.code yX4_isEven cX4_isEven 3 (some .boolean) ∈ xWs := xin (i := 674) (by decide +kernel) (by decide +kernel)
theorem km_X4_55 : Cond.methodLink RX4 55 yX6_cellAtMark ∈ xWs := xin (i := 675) (by decide +kernel) (by decide +kernel)
theorem km_L_70 : Cond.methodLink RL 70 yX8_pairs ∈ xWs := xin (i := 981) (by decide +kernel) (by decide +kernel)
theorem kp_instanceMethod_yX8_pairs : Cond.instanceMethod yX8_pairs ∈ xWs := xin (i := 982) (by decide +kernel) (by decide +kernel)
theorem kp_selects_yX8_pairs : Cond.selects RX8 yX8_pairs yX8_pairs ∈ xWs := xin (i := 983) (by decide +kernel) (by decide +kernel)
theorem kp_code_yX8_pairs : Cond.code yX8_pairs cX8_pairs 5 (some .int) ∈ xWs := xin (i := 984) (by decide +kernel) (by decide +kernel)
theorem km_X8_192 : Cond.methodLink RX8 192 yX8_runsBoth ∈ xWs := xin (i := 985) (by decide +kernel) (by decide +kernel)
theorem kp_instanceMethod_yX8_runsBoth : Cond.instanceMethod yX8_runsBoth ∈ xWs := xin (i := 987) (by decide +kernel) (by decide +kernel)
theorem kp_selects_yX8_runsBoth : Cond.selects RX8 yX8_runsBoth yX8_runsBoth ∈ xWs := xin (i := 58) (by decide +kernel) (by decide +kernel)
theorem kp_code_yX8_runsBoth : Cond.code yX8_runsBoth cX8_runsBoth 3 none ∈ xWs := xin (i := 988) (by decide +kernel) (by decide +kernel)
theorem km_X8_183 : Cond.methodLink RX8 183 yX8_pairMany ∈ xWs := xin (i := 989) (by decide +kernel) (by decide +kernel)
theorem kp_instanceMethod_yX8_pairMany : Cond.instanceMethod yX8_pairMany ∈ xWs := xin (i := 991) (by decide +kernel) (by decide +kernel)
theorem kp_selects_yX8_pairMany : Cond.selects RX8 yX8_pairMany yX8_pairMany ∈ xWs := xin (i := 59) (by decide +kernel) (by decide +kernel)
theorem kp_code_yX8_pairMany : Cond.code yX8_pairMany cX8_pairMany 1 (some .int) ∈ xWs := xin (i := 992) (by decide +kernel) (by decide +kernel)
theorem km_X8_195 : Cond.methodLink RX8 195 yX8_allEqual ∈ xWs := xin (i := 993) (by decide +kernel) (by decide +kernel)
theorem kp_instanceMethod_yX8_allEqual : Cond.instanceMethod yX8_allEqual ∈ xWs := xin (i := 995) (by decide +kernel) (by decide +kernel)
theorem kp_selects_yX8_allEqual : Cond.selects RX8 yX8_allEqual yX8_allEqual ∈ xWs := xin (i := 60) (by decide +kernel) (by decide +kernel)
theorem kp_code_yX8_allEqual : Cond.code yX8_allEqual cX8_allEqual 5 (some .int) ∈ xWs := xin (i := 996) (by decide +kernel) (by decide +kernel)
theorem km_X8_189 : Cond.methodLink RX8 189 yX8_isEqual ∈ xWs := xin (i := 997) (by decide +kernel) (by decide +kernel)
theorem kp_instanceMethod_yX8_isEqual : Cond.instanceMethod yX8_isEqual ∈ xWs := xin (i := 999) (by decide +kernel) (by decide +kernel)
theorem kp_selects_yX8_isEqual : Cond.selects RX8 yX8_isEqual yX8_isEqual ∈ xWs := xin (i := 61) (by decide +kernel) (by decide +kernel)
theorem kp_code_yX8_isEqual : Cond.code yX8_isEqual cX8_isEqual 4 (some .boolean) ∈ xWs := xin (i := 1000) (by decide +kernel) (by decide +kernel)
theorem km_X8_198 : Cond.methodLink RX8 198 yX8_greatestLead ∈ xWs := xin (i := 1001) (by decide +kernel) (by decide +kernel)
theorem kp_instanceMethod_yX8_greatestLead : Cond.instanceMethod yX8_greatestLead ∈ xWs := xin (i := 1003) (by decide +kernel) (by decide +kernel)
theorem kp_selects_yX8_greatestLead : Cond.selects RX8 yX8_greatestLead yX8_greatestLead ∈ xWs := xin (i := 62) (by decide +kernel) (by decide +kernel)
theorem kp_code_yX8_greatestLead : Cond.code yX8_greatestLead cX8_greatestLead 4 (some .int) ∈ xWs := xin (i := 1004) (by decide +kernel) (by decide +kernel)
theorem km_X8_186 : Cond.methodLink RX8 186 yX8_leadOf ∈ xWs := xin (i := 1005) (by decide +kernel) (by decide +kernel)
theorem kp_instanceMethod_yX8_leadOf : Cond.instanceMethod yX8_leadOf ∈ xWs := xin (i := 1007) (by decide +kernel) (by decide +kernel)
theorem kp_selects_yX8_leadOf : Cond.selects RX8 yX8_leadOf yX8_leadOf ∈ xWs := xin (i := 63) (by decide +kernel) (by decide +kernel)
theorem kp_code_yX8_leadOf : Cond.code yX8_leadOf cX8_leadOf 2 (some .int) ∈ xWs := xin (i := 1008) (by decide +kernel) (by decide +kernel)
theorem km_L_71 : Cond.methodLink RL 71 yX7_equal ∈ xWs := xin (i := 676) (by decide +kernel) (by decide +kernel)
theorem kp_instanceMethod_yX7_equal : Cond.instanceMethod yX7_equal ∈ xWs := xin (i := 677) (by decide +kernel) (by decide +kernel)
theorem kp_selects_yX7_equal : Cond.selects RX7 yX7_equal yX7_equal ∈ xWs := xin (i := 678) (by decide +kernel) (by decide +kernel)
theorem kp_code_yX7_equal : Cond.code yX7_equal cX7_equal 4 (some .int) ∈ xWs := xin (i := 679) (by decide +kernel) (by decide +kernel)
theorem km_X7_184 : Cond.methodLink RX7 184 yX4_cellsEqualTo ∈ xWs := xin (i := 680) (by decide +kernel) (by decide +kernel)
theorem kp_instanceMethod_yX4_cellsEqualTo : Cond.instanceMethod yX4_cellsEqualTo ∈ xWs := xin (i := 681) (by decide +kernel) (by decide +kernel)
theorem kp_selects_yX4_cellsEqualTo : Cond.selects RX4 yX4_cellsEqualTo yX4_cellsEqualTo ∈ xWs := xin (i := 682) (by decide +kernel) (by decide +kernel)
theorem kp_code_yX4_cellsEqualTo : Cond.code yX4_cellsEqualTo cX4_cellsEqualTo 4 (some .int) ∈ xWs := xin (i := 683) (by decide +kernel) (by decide +kernel)
theorem km_X4_58 : Cond.methodLink RX4 58 yX4_isAlwaysSame ∈ xWs := xin (i := 684) (by decide +kernel) (by decide +kernel)
theorem kp_instanceMethod_yX4_isAlwaysSame : Cond.instanceMethod yX4_isAlwaysSame ∈ xWs := xin (i := 686) (by decide +kernel) (by decide +kernel)
theorem kp_selects_yX4_isAlwaysSame : Cond.selects RX4 yX4_isAlwaysSame yX4_isAlwaysSame ∈ xWs := xin (i := 29) (by decide +kernel) (by decide +kernel)
theorem kp_code_yX4_isAlwaysSame : Cond.code yX4_isAlwaysSame cX4_isAlwaysSame 5 (some .boolean) ∈ xWs := xin (i := 687) (by decide +kernel) (by decide +kernel)
theorem km_L_74 : Cond.methodLink RL 74 yX8_equal ∈ xWs := xin (i := 1009) (by decide +kernel) (by decide +kernel)
theorem kp_instanceMethod_yX8_equal : Cond.instanceMethod yX8_equal ∈ xWs := xin (i := 1010) (by decide +kernel) (by decide +kernel)
theorem kp_selects_yX8_equal : Cond.selects RX8 yX8_equal yX8_equal ∈ xWs := xin (i := 1011) (by decide +kernel) (by decide +kernel)
theorem kp_code_yX8_equal : Cond.code yX8_equal cX8_equal 4 (some .int) ∈ xWs := xin (i := 1012) (by decide +kernel) (by decide +kernel)
theorem km_X8_201 : Cond.methodLink RX8 201 yX8_equalTo ∈ xWs := xin (i := 1013) (by decide +kernel) (by decide +kernel)
theorem kp_instanceMethod_yX8_equalTo : Cond.instanceMethod yX8_equalTo ∈ xWs := xin (i := 1015) (by decide +kernel) (by decide +kernel)
theorem kp_selects_yX8_equalTo : Cond.selects RX8 yX8_equalTo yX8_equalTo ∈ xWs := xin (i := 64) (by decide +kernel) (by decide +kernel)
theorem kp_code_yX8_equalTo : Cond.code yX8_equalTo cX8_equalTo 6 (some .int) ∈ xWs := xin (i := 1016) (by decide +kernel) (by decide +kernel)
theorem km_L_75 : Cond.methodLink RL 75 yX7_difference ∈ xWs := xin (i := 688) (by decide +kernel) (by decide +kernel)
theorem kp_instanceMethod_yX7_difference : Cond.instanceMethod yX7_difference ∈ xWs := xin (i := 689) (by decide +kernel) (by decide +kernel)
theorem kp_selects_yX7_difference : Cond.selects RX7 yX7_difference yX7_difference ∈ xWs := xin (i := 690) (by decide +kernel) (by decide +kernel)
theorem kp_code_yX7_difference : Cond.code yX7_difference cX7_difference 3 (some .int) ∈ xWs := xin (i := 691) (by decide +kernel) (by decide +kernel)
theorem km_X7_192 : Cond.methodLink RX7 192 yX2_firstDifference ∈ xWs := xin (i := 692) (by decide +kernel) (by decide +kernel)
theorem kp_instanceMethod_yX2_firstDifference : Cond.instanceMethod yX2_firstDifference ∈ xWs := xin (i := 693) (by decide +kernel) (by decide +kernel)
theorem kp_selects_yX2_firstDifference : Cond.selects RX2 yX2_firstDifference yX2_firstDifference ∈ xWs := xin (i := 694) (by decide +kernel) (by decide +kernel)
theorem kp_code_yX2_firstDifference : Cond.code yX2_firstDifference cX2_firstDifference 3 (some .int) ∈ xWs := xin (i := 695) (by decide +kernel) (by decide +kernel)
theorem km_X2_39 : Cond.methodLink RX2 39 yX2_valueAt ∈ xWs := xin (i := 696) (by decide +kernel) (by decide +kernel)
theorem km_L_78 : Cond.methodLink RL 78 yX8_difference ∈ xWs := xin (i := 1017) (by decide +kernel) (by decide +kernel)
theorem kp_instanceMethod_yX8_difference : Cond.instanceMethod yX8_difference ∈ xWs := xin (i := 1018) (by decide +kernel) (by decide +kernel)
theorem kp_selects_yX8_difference : Cond.selects RX8 yX8_difference yX8_difference ∈ xWs := xin (i := 1019) (by decide +kernel) (by decide +kernel)
theorem kp_code_yX8_difference : Cond.code yX8_difference cX8_difference 3 (some .int) ∈ xWs := xin (i := 1020) (by decide +kernel) (by decide +kernel)
theorem km_X8_204 : Cond.methodLink RX8 204 yX8_firstDifference ∈ xWs := xin (i := 1021) (by decide +kernel) (by decide +kernel)
theorem kp_instanceMethod_yX8_firstDifference : Cond.instanceMethod yX8_firstDifference ∈ xWs := xin (i := 1023) (by decide +kernel) (by decide +kernel)
theorem kp_selects_yX8_firstDifference : Cond.selects RX8 yX8_firstDifference yX8_firstDifference ∈ xWs := xin (i := 65) (by decide +kernel) (by decide +kernel)
theorem kp_code_yX8_firstDifference : Cond.code yX8_firstDifference cX8_firstDifference 4 (some .int) ∈ xWs := xin (i := 1024) (by decide +kernel) (by decide +kernel)
theorem km_L_79 : Cond.methodLink RL 79 yX7_agree ∈ xWs := xin (i := 697) (by decide +kernel) (by decide +kernel)
theorem kp_instanceMethod_yX7_agree : Cond.instanceMethod yX7_agree ∈ xWs := xin (i := 698) (by decide +kernel) (by decide +kernel)
theorem kp_selects_yX7_agree : Cond.selects RX7 yX7_agree yX7_agree ∈ xWs := xin (i := 699) (by decide +kernel) (by decide +kernel)
theorem kp_code_yX7_agree : Cond.code yX7_agree cX7_agree 7 (some .int) ∈ xWs := xin (i := 700) (by decide +kernel) (by decide +kernel)
theorem km_X7_196 : Cond.methodLink RX7 196 yX4_inAgreement ∈ xWs := xin (i := 701) (by decide +kernel) (by decide +kernel)
theorem kp_instanceMethod_yX4_inAgreement : Cond.instanceMethod yX4_inAgreement ∈ xWs := xin (i := 702) (by decide +kernel) (by decide +kernel)
theorem kp_selects_yX4_inAgreement : Cond.selects RX4 yX4_inAgreement yX4_inAgreement ∈ xWs := xin (i := 703) (by decide +kernel) (by decide +kernel)
theorem kp_code_yX4_inAgreement : Cond.code yX4_inAgreement cX4_inAgreement 1 (some .boolean) ∈ xWs := xin (i := 704) (by decide +kernel) (by decide +kernel)
theorem km_X4_72 : Cond.methodLink RX4 72 yX2_hasValuesOf ∈ xWs := xin (i := 705) (by decide +kernel) (by decide +kernel)
theorem kp_instanceMethod_yX2_hasValuesOf : Cond.instanceMethod yX2_hasValuesOf ∈ xWs := xin (i := 706) (by decide +kernel) (by decide +kernel)
theorem kp_selects_yX2_hasValuesOf : Cond.selects RX2 yX2_hasValuesOf yX2_hasValuesOf ∈ xWs := xin (i := 707) (by decide +kernel) (by decide +kernel)
theorem kp_code_yX2_hasValuesOf : Cond.code yX2_hasValuesOf cX2_hasValuesOf 2 (some .boolean) ∈ xWs := xin (i := 708) (by decide +kernel) (by decide +kernel)
theorem km_X2_43 : Cond.methodLink RX2 43 yX2_firstDifference ∈ xWs := xin (i := 709) (by decide +kernel) (by decide +kernel)
theorem km_L_82 : Cond.methodLink RL 82 yX8_agree ∈ xWs := xin (i := 1025) (by decide +kernel) (by decide +kernel)
theorem kp_instanceMethod_yX8_agree : Cond.instanceMethod yX8_agree ∈ xWs := xin (i := 1026) (by decide +kernel) (by decide +kernel)
theorem kp_selects_yX8_agree : Cond.selects RX8 yX8_agree yX8_agree ∈ xWs := xin (i := 1027) (by decide +kernel) (by decide +kernel)
theorem kp_code_yX8_agree : Cond.code yX8_agree cX8_agree 11 (some .int) ∈ xWs := xin (i := 1028) (by decide +kernel) (by decide +kernel)
theorem km_X8_207 : Cond.methodLink RX8 207 yX8_agreeOn ∈ xWs := xin (i := 1029) (by decide +kernel) (by decide +kernel)
theorem kp_instanceMethod_yX8_agreeOn : Cond.instanceMethod yX8_agreeOn ∈ xWs := xin (i := 1031) (by decide +kernel) (by decide +kernel)
theorem kp_selects_yX8_agreeOn : Cond.selects RX8 yX8_agreeOn yX8_agreeOn ∈ xWs := xin (i := 66) (by decide +kernel) (by decide +kernel)
theorem kp_code_yX8_agreeOn : Cond.code yX8_agreeOn cX8_agreeOn 3 (some .boolean) ∈ xWs := xin (i := 1032) (by decide +kernel) (by decide +kernel)
theorem km_L_83 : Cond.methodLink RL 83 yX7_always ∈ xWs := xin (i := 710) (by decide +kernel) (by decide +kernel)
theorem kp_instanceMethod_yX7_always : Cond.instanceMethod yX7_always ∈ xWs := xin (i := 711) (by decide +kernel) (by decide +kernel)
theorem kp_selects_yX7_always : Cond.selects RX7 yX7_always yX7_always ∈ xWs := xin (i := 712) (by decide +kernel) (by decide +kernel)
theorem kp_code_yX7_always : Cond.code yX7_always cX7_always 4 (some .int) ∈ xWs := xin (i := 713) (by decide +kernel) (by decide +kernel)
theorem km_X7_199 : Cond.methodLink RX7 199 yX7_triedFirst ∈ xWs := xin (i := 714) (by decide +kernel) (by decide +kernel)
theorem kp_static_yX7_triedFirst : Cond.static yX7_triedFirst ∈ xWs := xin (i := 715) (by decide +kernel) (by decide +kernel)
theorem kp_code_yX7_triedFirst : Cond.code yX7_triedFirst cX7_triedFirst 1 (some .int) ∈ xWs := xin (i := 716) (by decide +kernel) (by decide +kernel)
theorem km_X7_202 : Cond.methodLink RX7 202 yX7_triedSecond ∈ xWs := xin (i := 717) (by decide +kernel) (by decide +kernel)
theorem kp_static_yX7_triedSecond : Cond.static yX7_triedSecond ∈ xWs := xin (i := 718) (by decide +kernel) (by decide +kernel)
theorem kp_code_yX7_triedSecond : Cond.code yX7_triedSecond cX7_triedSecond 1 (some .int) ∈ xWs := xin (i := 719) (by decide +kernel) (by decide +kernel)
theorem km_L_86 : Cond.methodLink RL 86 yX8_always ∈ xWs := xin (i := 1033) (by decide +kernel) (by decide +kernel)
theorem kp_instanceMethod_yX8_always : Cond.instanceMethod yX8_always ∈ xWs := xin (i := 1034) (by decide +kernel) (by decide +kernel)
theorem kp_selects_yX8_always : Cond.selects RX8 yX8_always yX8_always ∈ xWs := xin (i := 1035) (by decide +kernel) (by decide +kernel)
theorem kp_code_yX8_always : Cond.code yX8_always cX8_always 4 (some .int) ∈ xWs := xin (i := 1036) (by decide +kernel) (by decide +kernel)
theorem km_L_87 : Cond.methodLink RL 87 yX7_idle ∈ xWs := xin (i := 720) (by decide +kernel) (by decide +kernel)
theorem kp_instanceMethod_yX7_idle : Cond.instanceMethod yX7_idle ∈ xWs := xin (i := 721) (by decide +kernel) (by decide +kernel)
theorem kp_selects_yX7_idle : Cond.selects RX7 yX7_idle yX7_idle ∈ xWs := xin (i := 722) (by decide +kernel) (by decide +kernel)
theorem kp_code_yX7_idle : Cond.code yX7_idle cX7_idle 4 (some .int) ∈ xWs := xin (i := 723) (by decide +kernel) (by decide +kernel)
theorem km_X7_205 : Cond.methodLink RX7 205 yX7_keepOutputsOf ∈ xWs := xin (i := 724) (by decide +kernel) (by decide +kernel)
theorem kp_instanceMethod_yX7_keepOutputsOf : Cond.instanceMethod yX7_keepOutputsOf ∈ xWs := xin (i := 726) (by decide +kernel) (by decide +kernel)
theorem kp_selects_yX7_keepOutputsOf : Cond.selects RX7 yX7_keepOutputsOf yX7_keepOutputsOf ∈ xWs := xin (i := 30) (by decide +kernel) (by decide +kernel)
theorem kp_code_yX7_keepOutputsOf : Cond.code yX7_keepOutputsOf cX7_keepOutputsOf 4 none ∈ xWs := xin (i := 727) (by decide +kernel) (by decide +kernel)
theorem km_X7_215 : Cond.methodLink RX7 215 yX2_takeFrom ∈ xWs := xin (i := 728) (by decide +kernel) (by decide +kernel)
theorem kp_instanceMethod_yX2_takeFrom : Cond.instanceMethod yX2_takeFrom ∈ xWs := xin (i := 729) (by decide +kernel) (by decide +kernel)
theorem kp_selects_yX2_takeFrom : Cond.selects RX2 yX2_takeFrom yX2_takeFrom ∈ xWs := xin (i := 730) (by decide +kernel) (by decide +kernel)
theorem kp_code_yX2_takeFrom : Cond.code yX2_takeFrom cX2_takeFrom 2 none ∈ xWs := xin (i := 731) (by decide +kernel) (by decide +kernel)
theorem kf_X2_23 : Cond.fieldLink RX2 23 "PairedSteps$Output" "cutOff" "Z" ∈ xWs := xin (i := 212) (by decide +kernel) (by decide +kernel)
theorem km_X2_27 : Cond.methodLink RX2 27 arraycopyName ∈ xWs := xin (i := 732) (by decide +kernel) (by decide +kernel)
theorem km_X7_208 : Cond.methodLink RX7 208 yX7_putsOutAsBefore ∈ xWs := xin (i := 733) (by decide +kernel) (by decide +kernel)
theorem kp_instanceMethod_yX7_putsOutAsBefore : Cond.instanceMethod yX7_putsOutAsBefore ∈ xWs := xin (i := 735) (by decide +kernel) (by decide +kernel)
theorem kp_selects_yX7_putsOutAsBefore : Cond.selects RX7 yX7_putsOutAsBefore yX7_putsOutAsBefore ∈ xWs := xin (i := 31) (by decide +kernel) (by decide +kernel)
theorem kp_code_yX7_putsOutAsBefore : Cond.code yX7_putsOutAsBefore cX7_putsOutAsBefore 5 (some .boolean) ∈ xWs := xin (i := 736) (by decide +kernel) (by decide +kernel)
theorem km_X7_218 : Cond.methodLink RX7 218 yX2_hasValuesOf ∈ xWs := xin (i := 737) (by decide +kernel) (by decide +kernel)
theorem km_L_90 : Cond.methodLink RL 90 yX8_idle ∈ xWs := xin (i := 1037) (by decide +kernel) (by decide +kernel)
theorem kp_instanceMethod_yX8_idle : Cond.instanceMethod yX8_idle ∈ xWs := xin (i := 1038) (by decide +kernel) (by decide +kernel)
theorem kp_selects_yX8_idle : Cond.selects RX8 yX8_idle yX8_idle ∈ xWs := xin (i := 1039) (by decide +kernel) (by decide +kernel)
theorem kp_code_yX8_idle : Cond.code yX8_idle cX8_idle 3 (some .int) ∈ xWs := xin (i := 1040) (by decide +kernel) (by decide +kernel)
theorem km_X8_210 : Cond.methodLink RX8 210 yX8_keeps ∈ xWs := xin (i := 1041) (by decide +kernel) (by decide +kernel)
theorem kp_instanceMethod_yX8_keeps : Cond.instanceMethod yX8_keeps ∈ xWs := xin (i := 1043) (by decide +kernel) (by decide +kernel)
theorem kp_selects_yX8_keeps : Cond.selects RX8 yX8_keeps yX8_keeps ∈ xWs := xin (i := 67) (by decide +kernel) (by decide +kernel)
theorem kp_code_yX8_keeps : Cond.code yX8_keeps cX8_keeps 4 none ∈ xWs := xin (i := 1044) (by decide +kernel) (by decide +kernel)
theorem km_X8_213 : Cond.methodLink RX8 213 yX8_isIdle ∈ xWs := xin (i := 1045) (by decide +kernel) (by decide +kernel)
theorem kp_instanceMethod_yX8_isIdle : Cond.instanceMethod yX8_isIdle ∈ xWs := xin (i := 1047) (by decide +kernel) (by decide +kernel)
theorem kp_selects_yX8_isIdle : Cond.selects RX8 yX8_isIdle yX8_isIdle ∈ xWs := xin (i := 68) (by decide +kernel) (by decide +kernel)
theorem kp_code_yX8_isIdle : Cond.code yX8_isIdle cX8_isIdle 6 (some .boolean) ∈ xWs := xin (i := 1048) (by decide +kernel) (by decide +kernel)
theorem inxX7 : ∀ w ∈ wsX70, w ∈ xWs := xinL [276, 278, 280, 282, 284, 286, 288, 290] (by decide +kernel) (by decide +kernel)
theorem inxX8 : ∀ w ∈ wsX80, w ∈ xWs := xinL [764, 766, 768, 770, 772, 774, 776, 778, 780, 782, 784, 786, 788, 790, 792, 794, 796, 798, 800, 802] (by decide +kernel) (by decide +kernel)
theorem inxX5 : ∀ w ∈ wsX50, w ∈ xWs := xinL [98, 100] (by decide +kernel) (by decide +kernel)
theorem inxX1 : ∀ w ∈ wsX10, w ∈ xWs := xinL [122, 124, 126, 128, 130, 132, 134, 136, 138, 140] (by decide +kernel) (by decide +kernel)
theorem inxX3 : ∀ w ∈ wsX30, w ∈ xWs := xinL [157, 159, 161, 163, 165, 167] (by decide +kernel) (by decide +kernel)
theorem inxX0 : ∀ w ∈ wsX00, w ∈ xWs := xinL [183, 185, 187] (by decide +kernel) (by decide +kernel)
theorem inxX4 : ∀ w ∈ wsX40, w ∈ xWs := xinL [260, 262] (by decide +kernel) (by decide +kernel)
theorem inxX2 : ∀ w ∈ wsX20, w ∈ xWs := xinL [215, 217, 219] (by decide +kernel) (by decide +kernel)
theorem inxX6 : ∀ w ∈ wsX60, w ∈ xWs := xinL [237, 239, 241, 243, 245, 247, 249, 251, 253] (by decide +kernel) (by decide +kernel)
theorem xnest : ∀ w ∈ xNest, w ∈ xWs := xinL [91, 97, 106, 111, 112, 156, 178, 182, 192, 198, 204, 210, 211, 213, 214, 223, 224, 230, 232, 234, 236, 257, 259, 267, 308, 339, 356, 371, 436, 561, 587, 592] (by decide +kernel) (by decide +kernel)
end
section
/-! THE X LAYER: one judgement over a memory that is a function of addresses; each row of it is one instruction, proved here once out of the kit's rows. -/
abbrev xC : Type := (Nat × Nat × (Nat → Int32)) ⊕ ((Nat × Nat × (Nat → Option Nat)) ⊕ (Nat × List Value))
abbrev xM : Type := (Nat → xC) × (Nat × Nat)
abbrev aI (t n : Nat) (g : Nat → Int32) : xC := .inl (t, n, g)
abbrev aR (t n : Nat) (r : Nat → Option Nat) : xC := .inr (.inl (t, n, r))
abbrev ob (ci : Nat) (fs : List Value) : xC := .inr (.inr (ci, fs))
def xAbs : xC := .inr (.inr (999, []))
def xtr (aC : Nat → ClassId) (c : xC) : va_E := match c with
  | .inl (t, n, g) => .inl (aC t, n, .inl g)
  | .inr (.inl (t, n, r)) => .inl (aC t, n, .inr (.inr (.inr (.inr r))))
  | .inr (.inr o) => .inr o
abbrev xG : Type := Launch × va_G × (Nat → ClassId) × Nat
def xTy (t : Nat) : FieldType := match t with
  | 0 => .int
  | 1 => .char
  | 2 => .object RX1
  | _ => .object RX2
def xu (f : Nat → xC) (a : Nat) (c : xC) : Nat → xC := fun q => if q = a then c else f q
theorem xu_s (f : Nat → xC) (a : Nat) (c : xC) : xu f a c a = c := by simp [xu]
theorem xu_n (f : Nat → xC) {a q : Nat} (c : xC) (h : q ≠ a) : xu f a c q = f q := by simp [xu, h]
/-- the world: each cell that is there stands in the heap -/
def xw (G : xG) (M : xM) (H : Heap) : Prop := H.size = M.2.1 ∧ G.2.2.2 ≤ M.2.1 ∧ ∀ a, M.1 a ≠ xAbs → G.2.2.2 ≤ a ∧ a < M.2.1 ∧ va_at G.2.1 vwCl (a, xtr G.2.2.1 (M.1 a)) H
theorem xWs_tab {w : Cond} (h : w ∈ xWs) : w.onTables = true := by
  have h2 := (List.mem_filter.mp h).2
  simp only [xWB, Bool.and_eq_true] at h2
  exact h2.1
theorem xWs_or {w : Cond} (h : w ∈ xWs) : goodWord w = true ∨ xNestB w = true := by
  have h2 := (List.mem_filter.mp h).2
  simp only [xWB, Bool.and_eq_true, Bool.or_eq_true] at h2
  exact h2.2
/-- what holds of the tables at each state -/
def xk (G : xG) (U : State) : Prop := (∀ w ∈ xWs, w.before #[] U = true) ∧ (∀ (c : Nat) (q : vw_C), vwCl[c]? = some q → u_Kn U q.1 q.2.1 q.2.2 (G.2.1.1 c) (G.2.1.2 c)) ∧ (∀ t, t < 4 → ArrOfT U (G.2.2.1 t) (xTy t) ∧ va_RA U (G.2.2.1 t) (xTy t)) ∧
  ((∀ A, (Cond.arrayClass .int).before A U = true) ∧ ∀ A, (Cond.arrayClass .char).before A U = true) ∧ va_AO RX1 U ∧ va_AO RX2 U
theorem xk_moved {G : xG} {s U : State} (hW : s.WarmedH U.vm) (h : xk G s) : xk G U := by
  obtain ⟨h1, h2, h3, h4, h5, h6⟩ := h
  refine ⟨fun w hw => ?_, fun c q hq => u_Kn_moved hW.alike (h2 c q hq), fun t ht => ⟨arrOfT_moved hW.alike (h3 t ht).1, (h3 t ht).2.moved hW.alike⟩, ⟨fun A => word_at hW (Or.inr ⟨_, rfl⟩) (h4.1 A), fun A => word_at hW (Or.inr ⟨_, rfl⟩) (h4.2 A)⟩, h5.moved hW.alike, h6.moved hW.alike⟩
  rcases xWs_or hw with hg | hg
  · exact word_at hW (good_of_word hg) (h1 w hw)
  · have h0 := h1 w hw
    cases w <;> first | exact va_Nw.warmF hW h0 | exact va_Nw.warmM hW h0 | cases hg
theorem xk_same {G : xG} {s U : State} (he : U.vm = s.vm) (h : xk G s) : xk G U := xk_moved (by rw [he]; exact State.WarmedH.refl s) h
theorem xk_ts {G : xG} {s : State} (h : xk G s) (args : Array Value) : ∀ w ∈ xWs, w.before args s = true := fun w hw => va_Nw.use (xWs_tab hw) (h.1 w hw)
abbrev xY : Type := MethodName × ByteArray × Nat × Option FieldType
/-- the end of a method: its answer v and the memory M' behind it, of which Q holds -/
def xPost (G : xG) (lim : Nat × Nat) (Q : Option Value → xM → Prop) : Array Value → State → Outcome → State → Prop := fun _ st oc t =>
  (∃ (v : Option Value) (M' : xM), oc = .returned v ∧ Q v M' ∧ M'.2 = lim ∧ xw G M' t.heap) ∧ va_F (fun q => G.2.2.2 ≤ q) st t
/-- a method's contract: from the arguments av and the memory M it ends, with Q -/
def xMet (G : xG) (d : Nat) (y : xY) (av : List Value) (M : xM) (lim : Nat × Nat) (Q : Option Value → xM → Prop) : Prop :=
  (M.2.1 ≤ lim.1 ∧ M.2.2 ≤ lim.2) ∧ Met G.1 y.1 [Cond.code y.1 y.2.1 y.2.2.1 y.2.2.2] { frames := d, cells := lim.1 - M.2.1, slots := lim.2 - M.2.2, locals := 38 * d } (va_Pc av (fun U => xw G M U.heap ∧ xk G U)) (xPost G lim Q) (lim.1 - M.2.1) (lim.2 - M.2.2) (fun q => G.2.2.2 ≤ q)
abbrev xF : Type := Program → Env → Room → State → MethodId → Array Value → List Frame → Method → Code → (State → Prop) → Prop
def xCx (G : xG) (d : Nat) (y : xY) (r0 lim : Nat × Nat) (p : Program) (R : Room) (s : State) (m : MethodId) (meth : Method) (c : Code) : Prop :=
  p.tables.exec = Jvm.exec ∧ c.code = y.2.1 ∧ meth.sig.returnType = y.2.2.2 ∧ c.maxLocals = y.2.2.1 ∧ s.vm.findClass y.1.cls = some m.cls ∧ meth.name = y.1.name ∧ meth.locks = false ∧ xk G s ∧ s.heap.size = r0.1 ∧ G.2.2.2 ≤ r0.1 ∧ d ≤ R.frames ∧ 38 * d ≤ R.locals ∧ lim.1 - r0.1 ≤ R.cells ∧ lim.2 - r0.2 ≤ R.slots
/-- the locals -/
def xl (lo : Array Slot) (nL : Nat) (ls : List (Nat × Value)) : Prop := lv_has lo nL ls ∧ ∀ q ∈ ls, q.2.category = 1
def xlk (ls : List (Nat × Value)) (i : Nat) : Option Value := match ls with
  | [] => none
  | (j, w) :: l => match Nat.beq j i with
    | true => some w
    | false => xlk l i
def xst (ls : List (Nat × Value)) (i : Nat) (v : Value) : List (Nat × Value) := match ls with
  | [] => [(i, v)]
  | (j, w) :: l => match Nat.beq j i with
    | true => (i, v) :: l.filter (fun q => !(Nat.beq q.1 i))
    | false => (j, w) :: xst l i v
theorem xlk_mem {i : Nat} {v : Value} : ∀ {ls : List (Nat × Value)}, xlk ls i = some v → (i, v) ∈ ls
  | [], h => by cases h
  | (j, w) :: l, h => by
    unfold xlk at h
    cases hb : Nat.beq j i with
    | true =>
      rw [hb] at h
      have hj := Nat.eq_of_beq_eq_true hb
      cases h
      subst hj
      exact List.mem_cons_self
    | false =>
      rw [hb] at h
      exact List.mem_cons_of_mem _ (xlk_mem h)
theorem xst_mem {i : Nat} {v : Value} : ∀ {ls : List (Nat × Value)} {q : Nat × Value}, q ∈ xst ls i v → q = (i, v) ∨ (q ∈ ls ∧ q.1 ≠ i)
  | [], q, h => Or.inl (List.mem_singleton.mp h)
  | (j, w) :: l, q, h => by
    unfold xst at h
    cases hb : Nat.beq j i with
    | true =>
      rw [hb] at h
      rcases List.mem_cons.mp h with h | h
      · exact Or.inl h
      · obtain ⟨h1, h2⟩ := List.mem_filter.mp h
        refine Or.inr ⟨List.mem_cons_of_mem _ h1, fun e => ?_⟩
        rw [e, Nat.beq_refl] at h2
        cases h2
    | false =>
      rw [hb] at h
      rcases List.mem_cons.mp h with h | h
      · refine Or.inr ⟨by rw [h]; exact List.mem_cons_self, fun e => ?_⟩
        rw [h] at e
        have e : j = i := e
        rw [e, Nat.beq_refl] at hb
        cases hb
      · rcases xst_mem h with h | ⟨h1, h2⟩
        · exact Or.inl h
        · exact Or.inr ⟨List.mem_cons_of_mem _ h1, h2⟩
theorem xl_at {lo : Array Slot} {nL i : Nat} {ls : List (Nat × Value)} {v : Value} (h : xl lo nL ls) (hk : xlk ls i = some v) : lo[i]? = some (.val v) := h.1.2.2 (i, v) (xlk_mem hk)
theorem xl_st {lo lo2 : Array Slot} {nL i : Nat} {ls : List (Nat × Value)} {v : Value} (h : xl lo nL ls) (hv : v.category = 1) (h2 : lv_has lo2 nL ((i, v) :: ls.filter (fun q => !(q.1 == i) && !(q.1 + 1 == i && q.2.category == 2)))) : xl lo2 nL (xst ls i v) := by
  refine ⟨⟨h2.1, h2.2.1, fun q hq => ?_⟩, fun q hq => ?_⟩
  · rcases xst_mem hq with e | ⟨h3, h4⟩
    · rw [e]; exact h2.2.2 (i, v) List.mem_cons_self
    · refine h2.2.2 q (List.mem_cons_of_mem _ (List.mem_filter.mpr ⟨h3, ?_⟩))
      simp [h4, h.2 q h3]
  · rcases xst_mem hq with e | ⟨h3, h4⟩
    · rw [e]; exact hv
    · exact h.2 q h3
/-- THE JUDGEMENT: at pc, with locals ls, stack st and memory M, the method comes to its end -/
def xX (G : xG) (d : Nat) (y : xY) (r0 lim : Nat × Nat) (Φ : xF) (pc : Nat) (ls : List (Nat × Value)) (st : List Value) (M : xM) : Prop :=
  ∀ (p : Program) (e : Env) (R : Room) (s : State) (m : MethodId) (args : Array Value) (below : List Frame) (meth : Method) (c : Code) (Zf : State → Prop) (H : Heap) (locs : List Loc) (lo : Array Slot),
    Φ p e R s m args below meth c Zf → xCx G d y r0 lim p R s m meth c → xw G M H → va_S (fun q => G.2.2.2 ≤ q) s.heap H locs → xl lo y.2.2.1 ls → (r0.1 ≤ M.2.1 ∧ r0.2 ≤ M.2.2 ∧ M.2.1 ≤ lim.1 ∧ M.2.2 ≤ lim.2) →
      W p G.1 e R s m args below meth c H locs (M.2.1 - r0.1) (M.2.2 - r0.2) Zf (F0 m pc lo st)
/-- the frame of a method with a contract -/
def xΦ (G : xG) (r0 lim : Nat × Nat) (Q : Option Value → xM → Prop) : xF := fun _ _ _ s _ args below _ _ Zf => Zf = MQ below (xPost G lim Q) args s (lim.1 - r0.1) (lim.2 - r0.2) (fun q => G.2.2.2 ≤ q)
theorem xMet_of {G : xG} {d : Nat} {y : xY} {av : List Value} {M : xM} {lim : Nat × Nat} {Q : Option Value → xM → Prop} (hy : plainName y.1.cls = true) (hlim : M.2.1 ≤ lim.1 ∧ M.2.2 ≤ lim.2) (hav : av.all (fun v => v.category == 1) = true) (hlen : (lg_sl av).length ≤ y.2.2.1)
    (k : xX G d y M.2 lim (xΦ G M.2 lim Q) 0 (lv_args 0 av) [] M) : xMet G d y av M lim Q := by
  refine ⟨hlim, ?_⟩
  refine Met.ofW (cc := y.2.1) (maxL := y.2.2.1) (ret := y.2.2.2) hy rfl ?_
  intro p e s m args below meth c s₁ B hml hv
  obtain ⟨rfl, hw, hk⟩ := hv
  have hl := lv_entry av (n := y.2.2.1) hlen
  rw [lg_entry_eq]
  have hin : meth.name = y.1.name := (name_of_methodNamed B.named B.method).1
  refine W.cs (cells' := M.2.1 - M.2.1) (slots' := M.2.2 - M.2.2) (by omega) (by omega) ?_
  refine k p e _ s m _ below meth c _ s.heap [] _ rfl ⟨B.exec, B.bytes, B.returns, hml, findClass_of_methodNamed B.named, hin, B.notSynchronized, hk, hw.1, hw.2.1, Nat.le_refl _, Nat.le_refl _, Nat.le_refl _, Nat.le_refl _⟩ hw va_S.rf ⟨hl, ?_⟩ ⟨Nat.le_refl _, Nat.le_refl _, hlim.1, hlim.2⟩
  intro q hq
  have key : ∀ (vs : List Value) (i : Nat), vs.all (fun v => v.category == 1) = true → ∀ q ∈ lv_args i vs, q.2.category = 1 := by
    intro vs
    induction vs with
    | nil => intro i _ q hq; cases hq
    | cons v vs ih =>
      intro i hall q hq
      simp only [List.all_cons, Bool.and_eq_true, beq_iff_eq] at hall
      simp only [lv_args, List.mem_cons] at hq
      rcases hq with rfl | hq
      · exact hall.1
      · exact ih _ hall.2 q hq
  exact key av 0 hav q hq
end
section
/-! THE ROWS of the X layer -/
section XR
variable {G : xG} {d : Nat} {y : xY} {r0 lim : Nat × Nat} {Φ : xF} {ls : List (Nat × Value)} {st : List Value} {M : xM} {pc n : Nat}
theorem xX.eq {pc' : Nat} {ls' : List (Nat × Value)} {st' : List Value} {M' : xM} (h1 : pc' = pc) (h2 : ls' = ls) (h3 : st' = st) (h4 : M' = M) (k : xX G d y r0 lim Φ pc' ls' st' M') : xX G d y r0 lim Φ pc ls st M := by
  subst h1; subst h2; subst h3; subst h4; exact k
theorem xr_iconst {z : Int} {v : Int32} (hd : decode y.2.1 pc = .ok (.iconst z, 1)) (hv : Int32.ofInt z = v) (hn : pc + 1 = n) (k : xX G d y r0 lim Φ n ls (.int v :: st) M) : xX G d y r0 lim Φ pc ls st M := by
  subst hn
  intro p e R s m args below meth c Zf H locs lo hΦ hC hw hS hl hb
  exact lv_iconst hC.1 hC.2.1 hd hv (k p e R s m args below meth c Zf H locs lo hΦ hC hw hS hl hb)
theorem xr_bipush {z : Int} {v : Int32} (hd : decode y.2.1 pc = .ok (.bipush z, 2)) (hv : (Int8.ofInt z).toInt32 = v) (hn : pc + 2 = n) (k : xX G d y r0 lim Φ n ls (.int v :: st) M) : xX G d y r0 lim Φ pc ls st M := by
  subst hn
  intro p e R s m args below meth c Zf H locs lo hΦ hC hw hS hl hb
  exact lv_bipush hC.1 hC.2.1 hd hv (k p e R s m args below meth c Zf H locs lo hΦ hC hw hS hl hb)
theorem xr_sipush {z : Int} {v : Int32} (hd : decode y.2.1 pc = .ok (.sipush z, 3)) (hv : (Int16.ofInt z).toInt32 = v) (hn : pc + 3 = n) (k : xX G d y r0 lim Φ n ls (.int v :: st) M) : xX G d y r0 lim Φ pc ls st M := by
  subst hn
  intro p e R s m args below meth c Zf H locs lo hΦ hC hw hS hl hb
  exact lv_sipush hC.1 hC.2.1 hd hv (k p e R s m args below meth c Zf H locs lo hΦ hC hw hS hl hb)
theorem xr_iload_n {k4 : Fin 4} {x : Int32} (hd : decode y.2.1 pc = .ok (.iload_n k4, 1)) (hl0 : xlk ls k4.val = some (.int x)) (hn : pc + 1 = n) (k : xX G d y r0 lim Φ n ls (.int x :: st) M) : xX G d y r0 lim Φ pc ls st M := by
  subst hn
  intro p e R s m args below meth c Zf H locs lo hΦ hC hw hS hl hb
  exact lv_iload_n hC.1 hC.2.1 hd rfl (xl_at hl hl0) (k p e R s m args below meth c Zf H locs lo hΦ hC hw hS hl hb)
theorem xr_iload {i : Nat} {x : Int32} (hd : decode y.2.1 pc = .ok (.iload i, 2)) (hl0 : xlk ls i = some (.int x)) (hn : pc + 2 = n) (k : xX G d y r0 lim Φ n ls (.int x :: st) M) : xX G d y r0 lim Φ pc ls st M := by
  subst hn
  intro p e R s m args below meth c Zf H locs lo hΦ hC hw hS hl hb
  exact lv_iload hC.1 hC.2.1 hd (xl_at hl hl0) (k p e R s m args below meth c Zf H locs lo hΦ hC hw hS hl hb)
theorem xr_aload_n {k4 : Fin 4} {x : Nat} (hd : decode y.2.1 pc = .ok (.aload_n k4, 1)) (hl0 : xlk ls k4.val = some (.ref x)) (hn : pc + 1 = n) (k : xX G d y r0 lim Φ n ls (.ref x :: st) M) : xX G d y r0 lim Φ pc ls st M := by
  subst hn
  intro p e R s m args below meth c Zf H locs lo hΦ hC hw hS hl hb
  exact lv_aload_n hC.1 hC.2.1 hd rfl (xl_at hl hl0) (k p e R s m args below meth c Zf H locs lo hΦ hC hw hS hl hb)
theorem xr_aload {i : Nat} {x : Nat} (hd : decode y.2.1 pc = .ok (.aload i, 2)) (hl0 : xlk ls i = some (.ref x)) (hn : pc + 2 = n) (k : xX G d y r0 lim Φ n ls (.ref x :: st) M) : xX G d y r0 lim Φ pc ls st M := by
  subst hn
  intro p e R s m args below meth c Zf H locs lo hΦ hC hw hS hl hb
  exact lv_aload hC.1 hC.2.1 hd (xl_at hl hl0) (k p e R s m args below meth c Zf H locs lo hΦ hC hw hS hl hb)
theorem xr_istore_n {k4 : Fin 4} {x : Int32} (hd : decode y.2.1 pc = .ok (.istore_n k4, 1)) (hi : Nat.blt k4.val y.2.2.1 = true) (hn : pc + 1 = n) (k : xX G d y r0 lim Φ n (xst ls k4.val (.int x)) st M) : xX G d y r0 lim Φ pc ls (.int x :: st) M := by
  subst hn
  intro p e R s m args below meth c Zf H locs lo hΦ hC hw hS hl hb
  exact lv_istore_n hC.1 hC.2.1 hd rfl hl.1 (Nat.le_of_ble_eq_true hi) rfl (fun lo2 h2 => k p e R s m args below meth c Zf H locs lo2 hΦ hC hw hS (xl_st hl rfl h2) hb)
theorem xr_istore {i : Nat} {x : Int32} (hd : decode y.2.1 pc = .ok (.istore i, 2)) (hi : Nat.blt i y.2.2.1 = true) (hn : pc + 2 = n) (k : xX G d y r0 lim Φ n (xst ls i (.int x)) st M) : xX G d y r0 lim Φ pc ls (.int x :: st) M := by
  subst hn
  intro p e R s m args below meth c Zf H locs lo hΦ hC hw hS hl hb
  exact lv_istore hC.1 hC.2.1 hd hl.1 (Nat.le_of_ble_eq_true hi) rfl (fun lo2 h2 => k p e R s m args below meth c Zf H locs lo2 hΦ hC hw hS (xl_st hl rfl h2) hb)
theorem xr_astore_n {k4 : Fin 4} {x : Nat} (hd : decode y.2.1 pc = .ok (.astore_n k4, 1)) (hi : Nat.blt k4.val y.2.2.1 = true) (hn : pc + 1 = n) (k : xX G d y r0 lim Φ n (xst ls k4.val (.ref x)) st M) : xX G d y r0 lim Φ pc ls (.ref x :: st) M := by
  subst hn
  intro p e R s m args below meth c Zf H locs lo hΦ hC hw hS hl hb
  exact lv_astore_n hC.1 hC.2.1 hd rfl hl.1 (Nat.le_of_ble_eq_true hi) rfl (fun lo2 h2 => k p e R s m args below meth c Zf H locs lo2 hΦ hC hw hS (xl_st hl rfl h2) hb)
theorem xr_astore {i : Nat} {x : Nat} (hd : decode y.2.1 pc = .ok (.astore i, 2)) (hi : Nat.blt i y.2.2.1 = true) (hn : pc + 2 = n) (k : xX G d y r0 lim Φ n (xst ls i (.ref x)) st M) : xX G d y r0 lim Φ pc ls (.ref x :: st) M := by
  subst hn
  intro p e R s m args below meth c Zf H locs lo hΦ hC hw hS hl hb
  exact lv_astore hC.1 hC.2.1 hd hl.1 (Nat.le_of_ble_eq_true hi) rfl (fun lo2 h2 => k p e R s m args below meth c Zf H locs lo2 hΦ hC hw hS (xl_st hl rfl h2) hb)
theorem xl_place {i : Nat} {v : Value} : ∀ {ls : List (Nat × Value)}, xlk ls i = some v → ∃ k : Nat, ls[k]? = some (i, v) := fun h => List.getElem?_of_mem (xlk_mem h)
theorem xr_iinc {i : Nat} {z : Int} {x v : Int32} (hd : decode y.2.1 pc = .ok (.iinc i z, 3)) (hi : Nat.blt i y.2.2.1 = true) (hl0 : xlk ls i = some (.int x)) (hv : x + Int32.ofInt z = v) (hn : pc + 3 = n) (k : xX G d y r0 lim Φ n (xst ls i (.int v)) st M) : xX G d y r0 lim Φ pc ls st M := by
  subst hn
  intro p e R s m args below meth c Zf H locs lo hΦ hC hw hS hl hb
  obtain ⟨k9, h9⟩ := xl_place hl0
  exact lv_iinc hC.1 hC.2.1 hd hl.1 h9 hv (Nat.le_of_ble_eq_true hi) rfl (fun lo2 h2 => k p e R s m args below meth c Zf H locs lo2 hΦ hC hw hS (xl_st hl rfl h2) hb)
theorem xr_iadd {a b : Int32} (hd : decode y.2.1 pc = .ok (.iadd, 1)) (hn : pc + 1 = n) (k : xX G d y r0 lim Φ n ls (.int (a + b) :: st) M) : xX G d y r0 lim Φ pc ls (.int b :: .int a :: st) M := by
  subst hn
  intro p e R s m args below meth c Zf H locs lo hΦ hC hw hS hl hb
  exact lv_iadd hC.1 hC.2.1 hd (k p e R s m args below meth c Zf H locs lo hΦ hC hw hS hl hb)
theorem xr_isub {a b : Int32} (hd : decode y.2.1 pc = .ok (.isub, 1)) (hn : pc + 1 = n) (k : xX G d y r0 lim Φ n ls (.int (a - b) :: st) M) : xX G d y r0 lim Φ pc ls (.int b :: .int a :: st) M := by
  subst hn
  intro p e R s m args below meth c Zf H locs lo hΦ hC hw hS hl hb
  exact lv_isub hC.1 hC.2.1 hd (k p e R s m args below meth c Zf H locs lo hΦ hC hw hS hl hb)
theorem xr_imul {a b : Int32} (hd : decode y.2.1 pc = .ok (.imul, 1)) (hn : pc + 1 = n) (k : xX G d y r0 lim Φ n ls (.int (a * b) :: st) M) : xX G d y r0 lim Φ pc ls (.int b :: .int a :: st) M := by
  subst hn
  intro p e R s m args below meth c Zf H locs lo hΦ hC hw hS hl hb
  exact lv_imul hC.1 hC.2.1 hd (k p e R s m args below meth c Zf H locs lo hΦ hC hw hS hl hb)
theorem xr_iand {a b : Int32} (hd : decode y.2.1 pc = .ok (.iand, 1)) (hn : pc + 1 = n) (k : xX G d y r0 lim Φ n ls (.int (a &&& b) :: st) M) : xX G d y r0 lim Φ pc ls (.int b :: .int a :: st) M := by
  subst hn
  intro p e R s m args below meth c Zf H locs lo hΦ hC hw hS hl hb
  exact lv_iand hC.1 hC.2.1 hd (k p e R s m args below meth c Zf H locs lo hΦ hC hw hS hl hb)
theorem xr_ior {a b : Int32} (hd : decode y.2.1 pc = .ok (.ior, 1)) (hn : pc + 1 = n) (k : xX G d y r0 lim Φ n ls (.int (a ||| b) :: st) M) : xX G d y r0 lim Φ pc ls (.int b :: .int a :: st) M := by
  subst hn
  intro p e R s m args below meth c Zf H locs lo hΦ hC hw hS hl hb
  exact lv_ior hC.1 hC.2.1 hd (k p e R s m args below meth c Zf H locs lo hΦ hC hw hS hl hb)
theorem xr_ishl {a b : Int32} (hd : decode y.2.1 pc = .ok (.ishl, 1)) (hn : pc + 1 = n) (k : xX G d y r0 lim Φ n ls (.int (a <<< (b &&& 31)) :: st) M) : xX G d y r0 lim Φ pc ls (.int b :: .int a :: st) M := by
  subst hn
  intro p e R s m args below meth c Zf H locs lo hΦ hC hw hS hl hb
  exact lv_ishl hC.1 hC.2.1 hd (k p e R s m args below meth c Zf H locs lo hΦ hC hw hS hl hb)
theorem xr_idiv {a b : Int32} (hd : decode y.2.1 pc = .ok (.idiv, 1)) (h0 : ¬ b = 0) (hn : pc + 1 = n) (k : xX G d y r0 lim Φ n ls (.int (a / b) :: st) M) : xX G d y r0 lim Φ pc ls (.int b :: .int a :: st) M := by
  subst hn
  intro p e R s m args below meth c Zf H locs lo hΦ hC hw hS hl hb
  exact lv_idiv hC.1 hC.2.1 hd h0 (k p e R s m args below meth c Zf H locs lo hΦ hC hw hS hl hb)
theorem xr_irem {a b : Int32} (hd : decode y.2.1 pc = .ok (.irem, 1)) (h0 : ¬ b = 0) (hn : pc + 1 = n) (k : xX G d y r0 lim Φ n ls (.int (a - a / b * b) :: st) M) : xX G d y r0 lim Φ pc ls (.int b :: .int a :: st) M := by
  subst hn
  intro p e R s m args below meth c Zf H locs lo hΦ hC hw hS hl hb
  exact lv_irem hC.1 hC.2.1 hd h0 (k p e R s m args below meth c Zf H locs lo hΦ hC hw hS hl hb)
theorem xr_ineg {a : Int32} (hd : decode y.2.1 pc = .ok (.ineg, 1)) (hn : pc + 1 = n) (k : xX G d y r0 lim Φ n ls (.int (-a) :: st) M) : xX G d y r0 lim Φ pc ls (.int a :: st) M := by
  subst hn
  intro p e R s m args below meth c Zf H locs lo hΦ hC hw hS hl hb
  exact lv_ineg hC.1 hC.2.1 hd (k p e R s m args below meth c Zf H locs lo hΦ hC hw hS hl hb)
theorem xr_i2c {a v : Int32} (hd : decode y.2.1 pc = .ok (.i2c, 1)) (hv : (a.toUInt32 % 65536).toInt32 = v) (hn : pc + 1 = n) (k : xX G d y r0 lim Φ n ls (.int v :: st) M) : xX G d y r0 lim Φ pc ls (.int a :: st) M := by
  subst hn
  intro p e R s m args below meth c Zf H locs lo hΦ hC hw hS hl hb
  exact lv_i2c hC.1 hC.2.1 hd hv (k p e R s m args below meth c Zf H locs lo hΦ hC hw hS hl hb)
theorem xr_dup {a : Value} (hd : decode y.2.1 pc = .ok (.dup, 1)) (ha : a.category = 1) (hn : pc + 1 = n) (k : xX G d y r0 lim Φ n ls (a :: a :: st) M) : xX G d y r0 lim Φ pc ls (a :: st) M := by
  subst hn
  intro p e R s m args below meth c Zf H locs lo hΦ hC hw hS hl hb
  exact lv_dup hC.1 hC.2.1 hd ha (k p e R s m args below meth c Zf H locs lo hΦ hC hw hS hl hb)
theorem xr_dup2 {a b : Value} (hd : decode y.2.1 pc = .ok (.dup2, 1)) (ha : a.category = 1) (hb2 : b.category = 1) (hn : pc + 1 = n) (k : xX G d y r0 lim Φ n ls (a :: b :: a :: b :: st) M) : xX G d y r0 lim Φ pc ls (a :: b :: st) M := by
  subst hn
  intro p e R s m args below meth c Zf H locs lo hΦ hC hw hS hl hb
  exact lv_dup2_11 hC.1 hC.2.1 hd ha hb2 (k p e R s m args below meth c Zf H locs lo hΦ hC hw hS hl hb)
theorem xr_pop {a : Value} (hd : decode y.2.1 pc = .ok (.pop, 1)) (ha : a.category = 1) (hn : pc + 1 = n) (k : xX G d y r0 lim Φ n ls st M) : xX G d y r0 lim Φ pc ls (a :: st) M := by
  subst hn
  intro p e R s m args below meth c Zf H locs lo hΦ hC hw hS hl hb
  exact lv_pop hC.1 hC.2.1 hd ha (k p e R s m args below meth c Zf H locs lo hΦ hC hw hS hl hb)
theorem xr_goto {off : Int} (hd : decode y.2.1 pc = .ok (.goto off, 3)) (ht : (pc : Int) + off = (n : Int)) (k : xX G d y r0 lim Φ n ls st M) : xX G d y r0 lim Φ pc ls st M := by
  intro p e R s m args below meth c Zf H locs lo hΦ hC hw hS hl hb
  exact lv_goto hC.1 hC.2.1 hd ht (k p e R s m args below meth c Zf H locs lo hΦ hC hw hS hl hb)
theorem xr_icmp_eq {a b : Int32} {off : Int} {tgt : Nat} (hd : decode y.2.1 pc = .ok (.if_icmp .eq off, 3)) (ht : (pc : Int) + off = (tgt : Int)) (hn : pc + 3 = n) (kt : a = b → xX G d y r0 lim Φ tgt ls st M) (kf : ¬ a = b → xX G d y r0 lim Φ n ls st M) : xX G d y r0 lim Φ pc ls (.int b :: .int a :: st) M := by
  subst hn
  intro p e R s m args below meth c Zf H locs lo hΦ hC hw hS hl hb
  exact lv_icmp_eq hC.1 hC.2.1 hd ht (fun h => kt h p e R s m args below meth c Zf H locs lo hΦ hC hw hS hl hb) (fun h => kf h p e R s m args below meth c Zf H locs lo hΦ hC hw hS hl hb)
theorem xr_if_eq {a : Int32} {off : Int} {tgt : Nat} (hd : decode y.2.1 pc = .ok (.ifCond .eq off, 3)) (ht : (pc : Int) + off = (tgt : Int)) (hn : pc + 3 = n) (kt : a = 0 → xX G d y r0 lim Φ tgt ls st M) (kf : ¬ a = 0 → xX G d y r0 lim Φ n ls st M) : xX G d y r0 lim Φ pc ls (.int a :: st) M := by
  subst hn
  intro p e R s m args below meth c Zf H locs lo hΦ hC hw hS hl hb
  exact lv_if_eq hC.1 hC.2.1 hd ht (fun h => kt h p e R s m args below meth c Zf H locs lo hΦ hC hw hS hl hb) (fun h => kf h p e R s m args below meth c Zf H locs lo hΦ hC hw hS hl hb)
theorem xr_icmp_ne {a b : Int32} {off : Int} {tgt : Nat} (hd : decode y.2.1 pc = .ok (.if_icmp .ne off, 3)) (ht : (pc : Int) + off = (tgt : Int)) (hn : pc + 3 = n) (kt : ¬ a = b → xX G d y r0 lim Φ tgt ls st M) (kf : a = b → xX G d y r0 lim Φ n ls st M) : xX G d y r0 lim Φ pc ls (.int b :: .int a :: st) M := by
  subst hn
  intro p e R s m args below meth c Zf H locs lo hΦ hC hw hS hl hb
  exact lv_icmp_ne hC.1 hC.2.1 hd ht (fun h => kt h p e R s m args below meth c Zf H locs lo hΦ hC hw hS hl hb) (fun h => kf h p e R s m args below meth c Zf H locs lo hΦ hC hw hS hl hb)
theorem xr_if_ne {a : Int32} {off : Int} {tgt : Nat} (hd : decode y.2.1 pc = .ok (.ifCond .ne off, 3)) (ht : (pc : Int) + off = (tgt : Int)) (hn : pc + 3 = n) (kt : ¬ a = 0 → xX G d y r0 lim Φ tgt ls st M) (kf : a = 0 → xX G d y r0 lim Φ n ls st M) : xX G d y r0 lim Φ pc ls (.int a :: st) M := by
  subst hn
  intro p e R s m args below meth c Zf H locs lo hΦ hC hw hS hl hb
  exact lv_if_ne hC.1 hC.2.1 hd ht (fun h => kt h p e R s m args below meth c Zf H locs lo hΦ hC hw hS hl hb) (fun h => kf h p e R s m args below meth c Zf H locs lo hΦ hC hw hS hl hb)
theorem xr_icmp_lt {a b : Int32} {off : Int} {tgt : Nat} (hd : decode y.2.1 pc = .ok (.if_icmp .lt off, 3)) (ht : (pc : Int) + off = (tgt : Int)) (hn : pc + 3 = n) (kt : a < b → xX G d y r0 lim Φ tgt ls st M) (kf : ¬ a < b → xX G d y r0 lim Φ n ls st M) : xX G d y r0 lim Φ pc ls (.int b :: .int a :: st) M := by
  subst hn
  intro p e R s m args below meth c Zf H locs lo hΦ hC hw hS hl hb
  exact lv_icmp_lt hC.1 hC.2.1 hd ht (fun h => kt h p e R s m args below meth c Zf H locs lo hΦ hC hw hS hl hb) (fun h => kf h p e R s m args below meth c Zf H locs lo hΦ hC hw hS hl hb)
theorem xr_if_lt {a : Int32} {off : Int} {tgt : Nat} (hd : decode y.2.1 pc = .ok (.ifCond .lt off, 3)) (ht : (pc : Int) + off = (tgt : Int)) (hn : pc + 3 = n) (kt : a < 0 → xX G d y r0 lim Φ tgt ls st M) (kf : ¬ a < 0 → xX G d y r0 lim Φ n ls st M) : xX G d y r0 lim Φ pc ls (.int a :: st) M := by
  subst hn
  intro p e R s m args below meth c Zf H locs lo hΦ hC hw hS hl hb
  exact lv_if_lt hC.1 hC.2.1 hd ht (fun h => kt h p e R s m args below meth c Zf H locs lo hΦ hC hw hS hl hb) (fun h => kf h p e R s m args below meth c Zf H locs lo hΦ hC hw hS hl hb)
theorem xr_icmp_ge {a b : Int32} {off : Int} {tgt : Nat} (hd : decode y.2.1 pc = .ok (.if_icmp .ge off, 3)) (ht : (pc : Int) + off = (tgt : Int)) (hn : pc + 3 = n) (kt : b ≤ a → xX G d y r0 lim Φ tgt ls st M) (kf : ¬ b ≤ a → xX G d y r0 lim Φ n ls st M) : xX G d y r0 lim Φ pc ls (.int b :: .int a :: st) M := by
  subst hn
  intro p e R s m args below meth c Zf H locs lo hΦ hC hw hS hl hb
  exact lv_icmp_ge hC.1 hC.2.1 hd ht (fun h => kt h p e R s m args below meth c Zf H locs lo hΦ hC hw hS hl hb) (fun h => kf h p e R s m args below meth c Zf H locs lo hΦ hC hw hS hl hb)
theorem xr_if_ge {a : Int32} {off : Int} {tgt : Nat} (hd : decode y.2.1 pc = .ok (.ifCond .ge off, 3)) (ht : (pc : Int) + off = (tgt : Int)) (hn : pc + 3 = n) (kt : 0 ≤ a → xX G d y r0 lim Φ tgt ls st M) (kf : ¬ 0 ≤ a → xX G d y r0 lim Φ n ls st M) : xX G d y r0 lim Φ pc ls (.int a :: st) M := by
  subst hn
  intro p e R s m args below meth c Zf H locs lo hΦ hC hw hS hl hb
  exact lv_if_ge hC.1 hC.2.1 hd ht (fun h => kt h p e R s m args below meth c Zf H locs lo hΦ hC hw hS hl hb) (fun h => kf h p e R s m args below meth c Zf H locs lo hΦ hC hw hS hl hb)
theorem xr_icmp_gt {a b : Int32} {off : Int} {tgt : Nat} (hd : decode y.2.1 pc = .ok (.if_icmp .gt off, 3)) (ht : (pc : Int) + off = (tgt : Int)) (hn : pc + 3 = n) (kt : b < a → xX G d y r0 lim Φ tgt ls st M) (kf : ¬ b < a → xX G d y r0 lim Φ n ls st M) : xX G d y r0 lim Φ pc ls (.int b :: .int a :: st) M := by
  subst hn
  intro p e R s m args below meth c Zf H locs lo hΦ hC hw hS hl hb
  exact lv_icmp_gt hC.1 hC.2.1 hd ht (fun h => kt h p e R s m args below meth c Zf H locs lo hΦ hC hw hS hl hb) (fun h => kf h p e R s m args below meth c Zf H locs lo hΦ hC hw hS hl hb)
theorem xr_if_gt {a : Int32} {off : Int} {tgt : Nat} (hd : decode y.2.1 pc = .ok (.ifCond .gt off, 3)) (ht : (pc : Int) + off = (tgt : Int)) (hn : pc + 3 = n) (kt : 0 < a → xX G d y r0 lim Φ tgt ls st M) (kf : ¬ 0 < a → xX G d y r0 lim Φ n ls st M) : xX G d y r0 lim Φ pc ls (.int a :: st) M := by
  subst hn
  intro p e R s m args below meth c Zf H locs lo hΦ hC hw hS hl hb
  exact lv_if_gt hC.1 hC.2.1 hd ht (fun h => kt h p e R s m args below meth c Zf H locs lo hΦ hC hw hS hl hb) (fun h => kf h p e R s m args below meth c Zf H locs lo hΦ hC hw hS hl hb)
theorem xr_icmp_le {a b : Int32} {off : Int} {tgt : Nat} (hd : decode y.2.1 pc = .ok (.if_icmp .le off, 3)) (ht : (pc : Int) + off = (tgt : Int)) (hn : pc + 3 = n) (kt : a ≤ b → xX G d y r0 lim Φ tgt ls st M) (kf : ¬ a ≤ b → xX G d y r0 lim Φ n ls st M) : xX G d y r0 lim Φ pc ls (.int b :: .int a :: st) M := by
  subst hn
  intro p e R s m args below meth c Zf H locs lo hΦ hC hw hS hl hb
  exact lv_icmp_le hC.1 hC.2.1 hd ht (fun h => kt h p e R s m args below meth c Zf H locs lo hΦ hC hw hS hl hb) (fun h => kf h p e R s m args below meth c Zf H locs lo hΦ hC hw hS hl hb)
theorem xr_if_le {a : Int32} {off : Int} {tgt : Nat} (hd : decode y.2.1 pc = .ok (.ifCond .le off, 3)) (ht : (pc : Int) + off = (tgt : Int)) (hn : pc + 3 = n) (kt : a ≤ 0 → xX G d y r0 lim Φ tgt ls st M) (kf : ¬ a ≤ 0 → xX G d y r0 lim Φ n ls st M) : xX G d y r0 lim Φ pc ls (.int a :: st) M := by
  subst hn
  intro p e R s m args below meth c Zf H locs lo hΦ hC hw hS hl hb
  exact lv_if_le hC.1 hC.2.1 hd ht (fun h => kt h p e R s m args below meth c Zf H locs lo hΦ hC hw hS hl hb) (fun h => kf h p e R s m args below meth c Zf H locs lo hΦ hC hw hS hl hb)
theorem xr_tableIn {dflt lo hi : Int} {offs : Array Int} {len : Nat} {x : Int32} {off : Int} (hd : decode y.2.1 pc = .ok (.tableswitch dflt lo hi offs, len)) (h1 : ¬ x.toInt < lo) (h2 : ¬ hi < x.toInt) (ho : offs[(x.toInt - lo).toNat]? = some off) (ht : (pc : Int) + off = (n : Int)) (k : xX G d y r0 lim Φ n ls st M) : xX G d y r0 lim Φ pc ls (.int x :: st) M := by
  intro p e R s m args below meth c Zf H locs lo hΦ hC hw hS hl hb
  exact lv_tableIn hC.1 hC.2.1 hd h1 h2 ho ht (k p e R s m args below meth c Zf H locs lo hΦ hC hw hS hl hb)
theorem xr_tableOut {dflt lo hi : Int} {offs : Array Int} {len : Nat} {x : Int32} (hd : decode y.2.1 pc = .ok (.tableswitch dflt lo hi offs, len)) (h : x.toInt < lo ∨ hi < x.toInt) (ht : (pc : Int) + dflt = (n : Int)) (k : xX G d y r0 lim Φ n ls st M) : xX G d y r0 lim Φ pc ls (.int x :: st) M := by
  intro p e R s m args below meth c Zf H locs lo hΦ hC hw hS hl hb
  exact lv_tableOut hC.1 hC.2.1 hd h ht (k p e R s m args below meth c Zf H locs lo hΦ hC hw hS hl hb)
theorem xr_lookup {dflt : Int} {ps : Array (Int × Int)} {len : Nat} {x : Int32} {off : Int} (hd : decode y.2.1 pc = .ok (.lookupswitch dflt ps, len)) (hp : (ps.toList.zip (ps.toList.drop 1)).all (fun (a, next) => a.1 < next.1) = true) (ho : Op.lookupswitch.offset ps.toList dflt x.toInt = off) (ht : (pc : Int) + off = (n : Int)) (k : xX G d y r0 lim Φ n ls st M) : xX G d y r0 lim Φ pc ls (.int x :: st) M := by
  intro p e R s m args below meth c Zf H locs lo hΦ hC hw hS hl hb
  exact lv_lookup hC.1 hC.2.1 hd hp ho ht (k p e R s m args below meth c Zf H locs lo hΦ hC hw hS hl hb)
end XR
end
section
/-! THE ROWS of the X layer that read and write the memory, calls, and ends -/
def xft (ci k : Nat) : FieldType := match ci with
  | 0 => tyX0 k
  | 1 => tyX1 k
  | 2 => tyX2 k
  | 3 => tyX3 k
  | 4 => tyX4 k
  | 5 => tyX5 k
  | 6 => tyX6 k
  | 7 => tyX7 k
  | _ => tyX8 k
def xCl (ci : Nat) : Prop := ∃ (C : String) (T : u_T) (N : Nat), vwCl[ci]? = some (C, T, N) ∧ (∀ w ∈ u_ws C T N, w ∈ xWs) ∧ (∀ k, k < N → parseFieldDescriptor (T k).2.2.1 = some (xft ci k)) ∧ (∀ a, a < N → ∀ b, b < N → a ≠ b → (T a).2.1 ≠ (T b).2.1) ∧ (∀ k, k < N → (T k).1 = C) ∧ Cond.instantiable C N ∈ xWs ∧ Cond.initialized C ∈ xWs
theorem xCl_0 : xCl 0 := ⟨RX0, TX0, 3, rfl, inxX0, tyX0_ok, nmX0, by decide +kernel, kp_inst_RX0, kp_init_RX0⟩
theorem xCl_1 : xCl 1 := ⟨RX1, TX1, 10, rfl, inxX1, tyX1_ok, nmX1, by decide +kernel, kp_inst_RX1, kp_init_RX1⟩
theorem xCl_2 : xCl 2 := ⟨RX2, TX2, 3, rfl, inxX2, tyX2_ok, nmX2, by decide +kernel, kp_inst_RX2, kp_init_RX2⟩
theorem xCl_3 : xCl 3 := ⟨RX3, TX3, 6, rfl, inxX3, tyX3_ok, nmX3, by decide +kernel, kp_inst_RX3, kp_init_RX3⟩
theorem xCl_4 : xCl 4 := ⟨RX4, TX4, 2, rfl, inxX4, tyX4_ok, nmX4, by decide +kernel, kp_inst_RX4, kp_init_RX4⟩
theorem xCl_5 : xCl 5 := ⟨RX5, TX5, 2, rfl, inxX5, tyX5_ok, nmX5, by decide +kernel, kp_inst_RX5, kp_init_RX5⟩
theorem xCl_6 : xCl 6 := ⟨RX6, TX6, 9, rfl, inxX6, tyX6_ok, nmX6, by decide +kernel, kp_inst_RX6, kp_init_RX6⟩
theorem xCl_7 : xCl 7 := ⟨RX7, TX7, 8, rfl, inxX7, tyX7_ok, nmX7, by decide +kernel, kp_inst_RX7, kp_init_RX7⟩
theorem xCl_8 : xCl 8 := ⟨RX8, TX8, 20, rfl, inxX8, tyX8_ok, nmX8, by decide +kernel, kp_inst_RX8, kp_init_RX8⟩
theorem xCl_all {ci : Nat} (h : ci < 9) : xCl ci := by
  match ci, h with
  | 0, _ => exact xCl_0
  | 1, _ => exact xCl_1
  | 2, _ => exact xCl_2
  | 3, _ => exact xCl_3
  | 4, _ => exact xCl_4
  | 5, _ => exact xCl_5
  | 6, _ => exact xCl_6
  | 7, _ => exact xCl_7
  | 8, _ => exact xCl_8
/-- a field as the class own names it at place idx: field k of class ci -/
def xFld (own : String) (idx ci k : Nat) : Prop := ∃ (C : String) (T : u_T) (N : Nat), vwCl[ci]? = some (C, T, N) ∧ k < N ∧ (Cond.fieldLink own idx C (T k).2.1 (T k).2.2.1 ∈ xWs ∨ ∃ host, Cond.fieldLinkNest own idx C (T k).2.1 (T k).2.2.1 host ∈ xWs)
theorem xw_in {G : xG} {M : xM} {H : Heap} {a ci : Nat} {fs : List Value} (h : xw G M H) (ha : M.1 a = ob ci fs) (hc : ci < 9) : va_at G.2.1 vwCl (a, .inr (ci, fs)) H ∧ G.2.2.2 ≤ a ∧ a < M.2.1 := by
  have hne : M.1 a ≠ xAbs := by
    rw [ha]
    intro e
    have e2 : (ci, fs) = (999, []) := Sum.inr.inj (Sum.inr.inj e)
    have e3 : ci = 999 := congrArg Prod.fst e2
    omega
  obtain ⟨h1, h2, h3⟩ := h.2.2 a hne
  rw [ha] at h3
  exact ⟨h3, h1, h2⟩
theorem xw_inI {G : xG} {M : xM} {H : Heap} {a t n : Nat} {g : Nat → Int32} (h : xw G M H) (ha : M.1 a = aI t n g) : H[a]? = some (vp_cell (G.2.2.1 t) (n, .inl g)) ∧ G.2.2.2 ≤ a ∧ a < M.2.1 := by
  have hne : M.1 a ≠ xAbs := by rw [ha]; intro e; cases e
  obtain ⟨h1, h2, h3⟩ := h.2.2 a hne
  rw [ha] at h3
  exact ⟨h3, h1, h2⟩
theorem xw_inR {G : xG} {M : xM} {H : Heap} {a t n : Nat} {g : Nat → Option Nat} (h : xw G M H) (ha : M.1 a = aR t n g) : H[a]? = some (vp_cell (G.2.2.1 t) (n, .inr (.inr (.inr (.inr g))))) ∧ G.2.2.2 ≤ a ∧ a < M.2.1 := by
  have hne : M.1 a ≠ xAbs := by rw [ha]; intro e; cases e
  obtain ⟨h1, h2, h3⟩ := h.2.2 a hne
  rw [ha] at h3
  exact ⟨h3, h1, h2⟩
theorem xw_put {G : xG} {M : xM} {H H1 : Heap} {a : Nat} {c : xC} (h : xw G M H) (hz : H1.size = H.size) (ho : ∀ q, q ≠ a → H1[q]? = H[q]?) (hr : G.2.2.2 ≤ a ∧ a < M.2.1) (hc : va_at G.2.1 vwCl (a, xtr G.2.2.1 c) H1) : xw G (xu M.1 a c, M.2) H1 := by
  refine ⟨hz.trans h.1, h.2.1, fun q hq => ?_⟩
  by_cases e : q = a
  · subst e
    rw [show (xu M.1 q c, M.2).1 q = c from xu_s ..] at hq ⊢
    exact ⟨hr.1, hr.2, hc⟩
  · rw [show (xu M.1 a c, M.2).1 q = M.1 q from xu_n _ _ e] at hq ⊢
    obtain ⟨h1, h2, h3⟩ := h.2.2 q hq
    exact ⟨h1, h2, h3.kept (ho q e)⟩
theorem xw_new {G : xG} {M : xM} {H H1 : Heap} {c : xC} {nn : Nat} (h : xw G M H) (hz : H1.size = H.size + 1) (ho : ∀ q, q < H.size → H1[q]? = H[q]?) (hc : va_at G.2.1 vwCl (M.2.1, xtr G.2.2.1 c) H1) : xw G (xu M.1 M.2.1 c, (M.2.1 + 1, M.2.2 + nn)) H1 := by
  refine ⟨by show H1.size = M.2.1 + 1; rw [hz, h.1], by show _ ≤ M.2.1 + 1; have := h.2.1; omega, fun q hq => ?_⟩
  by_cases e : q = M.2.1
  · subst e
    rw [show (xu M.1 M.2.1 c, (M.2.1 + 1, M.2.2 + nn)).1 M.2.1 = c from xu_s ..] at hq ⊢
    exact ⟨h.2.1, Nat.lt_succ_self _, hc⟩
  · rw [show (xu M.1 M.2.1 c, (M.2.1 + 1, M.2.2 + nn)).1 q = M.1 q from xu_n _ _ e] at hq ⊢
    obtain ⟨h1, h2, h3⟩ := h.2.2 q hq
    exact ⟨h1, Nat.lt_succ_of_lt h2, h3.kept (ho q (by rw [h.1]; exact h2))⟩
theorem vwCl_lt {ci : Nat} {q : vw_C} (h : vwCl[ci]? = some q) : ci < 9 := (List.getElem?_eq_some_iff.mp h).1
theorem xKn {G : xG} {s : State} (h : xk G s) : va_K G.2.1 vwCl [] s := ⟨h.2.1, fun k q hq => by simp at hq⟩
theorem xP1 {D : va_G} {H : Heap} {q : Nat × va_E} (h : va_at D vwCl q H) : va_P D vwCl [q] H := by
  intro k x hx
  match k, hx with
  | 0, hx => cases hx; exact h
theorem xS_put {A : Nat → Prop} {H0 H H1 : Heap} {locs : List Loc} {a k : Nat} (h : va_S A H0 H locs) (z : H1.size = H.size) (oq : ∀ q : Nat, q ≠ a → H1[q]? = H[q]?) (ha : A a) : va_S A H0 H1 (locs ++ [⟨a, k⟩]) := h.put z oq ha
def xMth (y : xY) (np : Nat) : Prop := Cond.code y.1 y.2.1 y.2.2.1 y.2.2.2 ∈ xWs ∧ Cond.initialized y.1.cls ∈ xWs ∧ ((y.1.cls ≠ "java/lang/invoke/MethodHandle" ∧ y.1.cls ≠ "java/lang/invoke/VarHandle") ∧ (parseMethodDescriptor y.1.desc).map (fun d => d.parameters.length) = some np) ∧ y.2.2.1 ≤ 19
def xLnk (own : String) (idx : Nat) (x : MethodName) : Prop := Cond.methodLink own idx x ∈ xWs ∨ ∃ host, Cond.methodLinkNest own idx x host ∈ xWs
abbrev xps (v : Option Value) (st : List Value) : List Value := match v with
  | some w => w :: st
  | none => st
section XH
variable {G : xG} {d : Nat} {y : xY} {r0 lim : Nat × Nat} {Φ : xF} {ls : List (Nat × Value)} {st : List Value} {M : xM} {pc n : Nat}
theorem xr_get {a ci k idx : Nat} {fs : List Value} {v : Value} (hd : decode y.2.1 pc = .ok (.getfield idx, 3)) (hF : xFld y.1.cls idx ci k) (ha : M.1 a = ob ci fs) (hv : fs[k]? = some v) (hn : pc + 3 = n) (kk : xX G d y r0 lim Φ n ls (v :: st) M) : xX G d y r0 lim Φ pc ls (.ref a :: st) M := by
  subst hn
  intro p e R s m args below meth c Zf H locs lo hΦ hC hw hS hl hb
  obtain ⟨C, T, N, hcl, hk, hlink⟩ := hF
  obtain ⟨C', T', N', hcl', hin, hty, hnm, hown, -, -⟩ := xCl_all (vwCl_lt hcl)
  cases hcl.symm.trans hcl'
  have hxk := hC.2.2.2.2.2.2.2.1
  have hP := xP1 (xw_in hw ha (vwCl_lt hcl)).1
  have k2 := kk p e R s m args below meth c Zf H locs lo hΦ hC hw hS hl hb
  rcases hlink with hlink | ⟨host, hlink⟩
  · exact va_get hC.1 hC.2.1 (xk_ts hxk args) hin hC.2.2.2.2.1 (xKn hxk) hP 0 rfl hcl k hk (xk_ts hxk args _ hlink) (fun x hx => by rw [hown k hk] at hx; exact hx) hv hd k2
  · exact va_getN hC.1 hC.2.1 (xk_ts hxk args) hin hC.2.2.2.2.1 (xKn hxk) hP 0 rfl hcl k hk (xk_ts hxk args _ hlink) (fun x hx => by rw [hown k hk] at hx; exact hx) hv hd k2
theorem xr_put {a ci k idx : Nat} {fs : List Value} {v : Value} (hd : decode y.2.1 pc = .ok (.putfield idx, 3)) (hF : xFld y.1.cls idx ci k) (hfin : ((vwCl[ci]?).map fun q => (q.2.1 k).2.2.2) = some false) (ha : M.1 a = ob ci fs) (hl0 : Nat.blt k fs.length = true) (hnar : narrow (xft ci k) v = v) (hfit : fits (xft ci k) v = true) (hn : pc + 3 = n) (kk : xX G d y r0 lim Φ n ls st (xu M.1 a (ob ci (fs.set k v)), M.2)) : xX G d y r0 lim Φ pc ls (v :: .ref a :: st) M := by
  subst hn
  intro p e R s m args below meth c Zf H locs lo hΦ hC hw hS hl hb
  obtain ⟨C, T, N, hcl, hk, hlink⟩ := hF
  obtain ⟨C', T', N', hcl', hin, hty, hnm, hown, -, -⟩ := xCl_all (vwCl_lt hcl)
  cases hcl.symm.trans hcl'
  rw [hcl] at hfin
  have hfin : (T k).2.2.2 = false := Option.some.inj hfin
  have hxk := hC.2.2.2.2.2.2.2.1
  obtain ⟨hat, hr⟩ := xw_in hw ha (vwCl_lt hcl)
  have hts := xk_ts hxk args
  have hK : va_K G.2.1 vwCl [] s := xKn hxk
  have hap := va_apart (own := C) hts hin (xft ci) hty hnm hK hcl
  obtain ⟨r, h1, cell, q1, q2, q3, q4⟩ := hat
  cases h1.symm.trans hcl
  obtain ⟨hSl, hfc, kC, hkC, hkind⟩ := hK.1 ci _ hcl
  obtain ⟨cf, kf, fi, f, hi, hsl⟩ := hSl k hk
  have hlay := hts _ (hin _ (u_in_lay hk))
  unfold u_lay at hlay
  rw [if_neg (by rw [hfin]; decide)] at hlay
  have hst := (u_facts hfc hkC (u_lays hts hin hk) hi).1
  have h6 := u_store hfc hkC hkind hlay hi (hty k hk) hnar hfit
  have hi2 := hi
  rw [hown k hk] at hi2
  have kk2 : ∀ H' : Heap, H'[a]? = some (cell.setSlot f.slot v) → H'.size = H.size → (∀ q, q ≠ a → H'[q]? = H[q]?) → W p G.1 e R s m args below meth c H' (locs ++ [⟨a, f.slot⟩]) (M.2.1 - r0.1) (M.2.2 - r0.2) Zf (F0 m (pc + 3) lo st) := fun H' e1 e2 e3 =>
    kk p e R s m args below meth c Zf H' _ lo hΦ hC (xw_put hw e2 e3 hr ⟨_, hcl, t_OB.to (V := updV (vp_V fs) k v) ⟨_, e1, q2, q3, by rw [hsl]; exact t_set q4 hap hk v⟩ (fun j _ => vp_updV_set (Nat.le_of_ble_eq_true hl0) v j)⟩) (hS.put e2 e3 hr.1) hl hb
  rcases hlink with hlink | ⟨host, hlink⟩
  · exact W.putK hC.1 hC.2.1 (f := f) ⟨hC.2.2.2.2.1, hts _ hlink, ⟨_, _, _, hi2⟩, hst⟩ (by rw [q2]; exact h6) q1 q3 (by rw [hsl]; exact k2_hasslot (q4 k hk)) rfl rfl hd kk2
  · exact va_WputK hC.1 hC.2.1 (f := f) hC.2.2.2.2.1 (hts _ hlink) hi2 hst (by rw [q2]; exact h6) q1 q3 (by rw [hsl]; exact k2_hasslot (q4 k hk)) rfl rfl hd kk2
/-- a final field, in a constructor of its class -/
theorem xr_putF {a ci k idx : Nat} {fs : List Value} {v : Value} (hd : decode y.2.1 pc = .ok (.putfield idx, 3)) (hF : xFld y.1.cls idx ci k) (hfin : ((vwCl[ci]?).map fun q => (q.2.1 k).2.2.2) = some true) (hini : y.1.name = "<init>") (hown0 : ((vwCl[ci]?).map fun q => q.1) = some y.1.cls) (ha : M.1 a = ob ci fs) (hl0 : Nat.blt k fs.length = true) (hnar : narrow (xft ci k) v = v) (hfit : fits (xft ci k) v = true) (hn : pc + 3 = n) (kk : xX G d y r0 lim Φ n ls st (xu M.1 a (ob ci (fs.set k v)), M.2)) : xX G d y r0 lim Φ pc ls (v :: .ref a :: st) M := by
  subst hn
  intro p e R s m args below meth c Zf H locs lo hΦ hC hw hS hl hb
  obtain ⟨C, T, N, hcl, hk, hlink⟩ := hF
  obtain ⟨C', T', N', hcl', hin, hty, hnm, hown, -, -⟩ := xCl_all (vwCl_lt hcl)
  cases hcl.symm.trans hcl'
  rw [hcl] at hfin hown0
  have hfin : (T k).2.2.2 = true := Option.some.inj hfin
  have hown0 : C = y.1.cls := Option.some.inj hown0
  have hxk := hC.2.2.2.2.2.2.2.1
  obtain ⟨hat, hr⟩ := xw_in hw ha (vwCl_lt hcl)
  have hts := xk_ts hxk args
  have hK : va_K G.2.1 vwCl [] s := xKn hxk
  have hap := va_apart (own := C) hts hin (xft ci) hty hnm hK hcl
  obtain ⟨r, h1, cell, q1, q2, q3, q4⟩ := hat
  cases h1.symm.trans hcl
  obtain ⟨hSl, hfc, kC, hkC, hkind⟩ := hK.1 ci _ hcl
  obtain ⟨cf, kf, fi, f, hi, hsl⟩ := hSl k hk
  have hlay := hts _ (hin _ (u_in_lay hk))
  unfold u_lay at hlay
  rw [if_pos hfin] at hlay
  have hst := (u_facts hfc hkC (u_lays hts hin hk) hi).1
  have hownC : s.vm.findClass C = some m.cls := by rw [hown0]; exact hC.2.2.2.2.1
  have hcf : m.cls = cf := by
    obtain ⟨_, _, c', _, _, _, -, -, hf', -, -, -, hown2, -⟩ := Cond.laysFinal_spec hlay
    have e1 : c' = cf := by have := hi.symm.trans hf'; simp at this; exact this.1.symm
    rw [hown k hk] at hown2
    rw [← e1]; exact Option.some.inj (hownC.symm.trans hown2)
  have h6 := u_fits hfc hkC hkind (Or.inr hlay) hi (hty k hk) hnar hfit
  have hi2 := hi
  rw [hown k hk] at hi2
  have hin2 : meth.name = "<init>" := hC.2.2.2.2.2.1.trans hini
  have kk2 : ∀ H' : Heap, H'[a]? = some (cell.setSlot f.slot v) → H'.size = H.size → (∀ q, q ≠ a → H'[q]? = H[q]?) → W p G.1 e R s m args below meth c H' (locs ++ [⟨a, f.slot⟩]) (M.2.1 - r0.1) (M.2.2 - r0.2) Zf (F0 m (pc + 3) lo st) := fun H' e1 e2 e3 =>
    kk p e R s m args below meth c Zf H' _ lo hΦ hC (xw_put hw e2 e3 hr ⟨_, hcl, t_OB.to (V := updV (vp_V fs) k v) ⟨_, e1, q2, q3, by rw [hsl]; exact t_set q4 hap hk v⟩ (fun j _ => vp_updV_set (Nat.le_of_ble_eq_true hl0) v j)⟩) (hS.put e2 e3 hr.1) hl hb
  rcases hlink with hlink | ⟨host, hlink⟩
  · exact W.putFinK hC.1 hC.2.1 hC.2.2.2.2.1 (hts _ hlink) hi2 hst hcf hin2 (by rw [q2]; exact h6) q1 q3 (by rw [hsl]; exact k2_hasslot (q4 k hk)) rfl rfl hd kk2
  · have hlink2 := hts _ hlink
    exact va_Wputf hC.1 hC.2.1 hC.2.2.2.2.1 hlink2 hi2 hst (Or.inr ⟨hcf, hin2⟩) q1 (by rw [q3]; exact fun h => by cases h) (by rw [hsl]; exact k2_hasslot (q4 k hk)) h6.1 (by rw [q2, q3]; exact h6.2) rfl rfl hd (kk2 _ (by simp [Array.getElem?_setIfInBounds, (Array.getElem?_eq_some_iff.mp q1).1]) (by simp) (fun q hq => by simp [Array.getElem?_setIfInBounds, Ne.symm hq]))
theorem xr_iaload {a nn : Nat} {g : Nat → Int32} {i : Int32} (hd : decode y.2.1 pc = .ok (.iaload, 1)) (ha : M.1 a = aI 0 nn g) (hin : vp_in i nn) (hn : pc + 1 = n) (kk : xX G d y r0 lim Φ n ls (.int (g i.toNatClampNeg) :: st) M) : xX G d y r0 lim Φ pc ls (.int i :: .ref a :: st) M := by
  subst hn
  intro p e R s m args below meth c Zf H locs lo hΦ hC hw hS hl hb
  have hxk := hC.2.2.2.2.2.2.2.1
  obtain ⟨hat, hr⟩ := xw_inI hw ha
  have hlt : i.toNatClampNeg < nn := Nat.not_le.mp fun q => hin (Or.inr q)
  exact W.iald (v := .int (g i.toNatClampNeg)) hC.1 hC.2.1 hat ((hxk.2.2.1 0 (by omega)).1 nn (fun j => .int (g j))) (fun q => by cases q) (by show ¬ (i < 0 ∨ (arrV _ _ _).slots.size ≤ _); rw [arrV_size]; exact hin) (by show (arrV _ _ _).slots[_]? = _; rw [arrV_read _ _ hlt]) rfl rfl hd (kk p e R s m args below meth c Zf H locs lo hΦ hC hw hS hl hb)
theorem xr_caload {a nn : Nat} {g : Nat → Int32} {i : Int32} (hd : decode y.2.1 pc = .ok (.caload, 1)) (ha : M.1 a = aI 1 nn g) (hin : vp_in i nn) (hn : pc + 1 = n) (kk : xX G d y r0 lim Φ n ls (.int (g i.toNatClampNeg) :: st) M) : xX G d y r0 lim Φ pc ls (.int i :: .ref a :: st) M := by
  subst hn
  intro p e R s m args below meth c Zf H locs lo hΦ hC hw hS hl hb
  have hxk := hC.2.2.2.2.2.2.2.1
  obtain ⟨hat, hr⟩ := xw_inI hw ha
  have hlt : i.toNatClampNeg < nn := Nat.not_le.mp fun q => hin (Or.inr q)
  exact W.cald (v := .int (g i.toNatClampNeg)) hC.1 hC.2.1 hat ((hxk.2.2.1 1 (by omega)).1 nn (fun j => .int (g j))) (fun q => by cases q) (by show ¬ (i < 0 ∨ (arrV _ _ _).slots.size ≤ _); rw [arrV_size]; exact hin) (by show (arrV _ _ _).slots[_]? = _; rw [arrV_read _ _ hlt]) rfl rfl hd (kk p e R s m args below meth c Zf H locs lo hΦ hC hw hS hl hb)
theorem xr_aaload {a t nn : Nat} {g : Nat → Option Nat} {i : Int32} (hd : decode y.2.1 pc = .ok (.aaload, 1)) (ha : M.1 a = aR t nn g) (ht : t = 2 ∨ t = 3) (hin : vp_in i nn) (hn : pc + 1 = n) (kk : xX G d y r0 lim Φ n ls (va_rf (g i.toNatClampNeg) :: st) M) : xX G d y r0 lim Φ pc ls (.int i :: .ref a :: st) M := by
  subst hn
  intro p e R s m args below meth c Zf H locs lo hΦ hC hw hS hl hb
  have hxk := hC.2.2.2.2.2.2.2.1
  obtain ⟨hat, hr⟩ := xw_inR hw ha
  have hlt : i.toNatClampNeg < nn := Nat.not_le.mp fun q => hin (Or.inr q)
  exact W.aald (v := va_rf (g i.toNatClampNeg)) (ty := xTy t) hC.1 hC.2.1 hat ((hxk.2.2.1 t (by omega)).1 nn (fun j => va_rf (g j))) (by rcases ht with rfl | rfl <;> rfl) (fun q => by cases q) (by show ¬ (i < 0 ∨ (arrV _ _ _).slots.size ≤ _); rw [arrV_size]; exact hin) (by show (arrV _ _ _).slots[_]? = _; rw [arrV_read _ _ hlt]) rfl rfl hd (kk p e R s m args below meth c Zf H locs lo hΦ hC hw hS hl hb)
theorem xr_iastore {a nn : Nat} {g : Nat → Int32} {i x : Int32} (hd : decode y.2.1 pc = .ok (.iastore, 1)) (ha : M.1 a = aI 0 nn g) (hin : vp_in i nn) (hn : pc + 1 = n) (kk : xX G d y r0 lim Φ n ls st (xu M.1 a (aI 0 nn (upd g i.toNatClampNeg x)), M.2)) : xX G d y r0 lim Φ pc ls (.int x :: .int i :: .ref a :: st) M := by
  subst hn
  intro p e R s m args below meth c Zf H locs lo hΦ hC hw hS hl hb
  have hxk := hC.2.2.2.2.2.2.2.1
  obtain ⟨hat, hr⟩ := xw_inI hw ha
  refine W.iast hC.1 hC.2.1 hat ((hxk.2.2.1 0 (by omega)).1 nn (fun j => .int (g j))) (fun q => by cases q) (by show ¬ (i < 0 ∨ (arrV _ _ _).slots.size ≤ _); rw [arrV_size]; exact hin) rfl rfl hd fun H1 e1 z oq => ?_
  refine kk p e R s m args below meth c Zf H1 _ lo hΦ hC (xw_put hw z oq hr ?_) (hS.put z oq hr.1) hl hb
  show H1[a]? = some (vp_cell _ _)
  rw [e1]
  rw [vp_cell_i, vp_cell_i, arrV_store]
  congr 2
  funext q
  by_cases hq : q = i.toNatClampNeg
  · subst hq
    simp [updV, upd]
  · simp [updV, upd, hq]
theorem xr_castore {a nn : Nat} {g : Nat → Int32} {i x : Int32} (hd : decode y.2.1 pc = .ok (.castore, 1)) (ha : M.1 a = aI 1 nn g) (hin : vp_in i nn) (hx : vp_nar .char x = x) (hn : pc + 1 = n) (kk : xX G d y r0 lim Φ n ls st (xu M.1 a (aI 1 nn (upd g i.toNatClampNeg x)), M.2)) : xX G d y r0 lim Φ pc ls (.int x :: .int i :: .ref a :: st) M := by
  subst hn
  intro p e R s m args below meth c Zf H locs lo hΦ hC hw hS hl hb
  have hxk := hC.2.2.2.2.2.2.2.1
  obtain ⟨hat, hr⟩ := xw_inI hw ha
  refine W.cast hC.1 hC.2.1 hat ((hxk.2.2.1 1 (by omega)).1 nn (fun j => .int (g j))) (fun q => by cases q) (by show ¬ (i < 0 ∨ (arrV _ _ _).slots.size ≤ _); rw [arrV_size]; exact hin) rfl rfl hd fun H1 e1 z oq => ?_
  refine kk p e R s m args below meth c Zf H1 _ lo hΦ hC (xw_put hw z oq hr ?_) (hS.put z oq hr.1) hl hb
  show H1[a]? = some (vp_cell _ _)
  rw [e1]
  have hx2 : narrow .char (.int x) = .int x := by
    rw [show narrow .char (.int x) = .int (vp_nar .char x) from rfl, hx]
  rw [hx2, vp_cell_i, vp_cell_i, arrV_store]
  congr 2
  funext q
  by_cases hq : q = i.toNatClampNeg
  · subst hq
    simp [updV, upd]
  · simp [updV, upd, hq]
theorem xr_aastore {a t nn v ci : Nat} {vs : List Value} {g : Nat → Option Nat} {i : Int32} (hd : decode y.2.1 pc = .ok (.aastore, 1)) (ha : M.1 a = aR t nn g) (hv : M.1 v = ob ci vs) (ht : (t = 2 ∧ ci = 1) ∨ (t = 3 ∧ ci = 2)) (hin : vp_in i nn) (hn : pc + 1 = n) (kk : xX G d y r0 lim Φ n ls st (xu M.1 a (aR t nn (va_up g i.toNatClampNeg (some v))), M.2)) : xX G d y r0 lim Φ pc ls (.ref v :: .int i :: .ref a :: st) M := by
  subst hn
  intro p e R s m args below meth c Zf H locs lo hΦ hC hw hS hl hb
  have hxk := hC.2.2.2.2.2.2.2.1
  obtain ⟨hat, hr⟩ := xw_inR hw ha
  have hlt : i.toNatClampNeg < nn := Nat.not_le.mp fun q => hin (Or.inr q)
  have h0 : ¬ i < 0 := fun q => hin (Or.inl q)
  obtain ⟨⟨r', hr', cellV, g1, g2, g3, -⟩, -⟩ := xw_in hw hv (by omega)
  have hcls := (hxk.2.1 ci r' hr').2
  have hra := (hxk.2.2.1 t (by omega)).2
  have hx : ∃ (kA : Class) (comp : ClassId) (tt : FieldType), s.vm.classes[G.2.2.1 t]? = some kA ∧ kA.kind = .array comp tt ∧ tt.isReference = true ∧ s.vm.findClass r'.1 = some comp := by
    rcases ht with ⟨rfl, rfl⟩ | ⟨rfl, rfl⟩ <;> (cases hr'; obtain ⟨kA, comp, k1, k2, k3, -⟩ := hra; exact ⟨kA, comp, _, k1, k2, rfl, k3⟩)
  obtain ⟨kA, comp, tt, k1, k2, k4, k3⟩ := hx
  have hcomp : comp = G.2.1.1 ci := Option.some.inj (k3.symm.trans hcls.1)
  subst hcomp
  obtain ⟨kC, hkC, -⟩ := hcls.2
  refine W.aast hC.1 hC.2.1 hat (fun q h => by cases h) (fun h => by cases h) k1 k2 k4 hkC ⟨h0, by show _ < (arrV _ _ _).slots.size; rw [arrV_size]; exact hlt⟩ g1 (fun q h => by rw [g3] at h; cases h) (by rw [g2]; exact hkC) (by rw [g2]; exact va_assign hcls) rfl rfl hd fun H1 e1 z oq => ?_
  refine kk p e R s m args below meth c Zf H1 _ lo hΦ hC (xw_put hw z oq hr ?_) (hS.put z oq hr.1) hl hb
  show H1[a]? = some (vp_cell _ _)
  rw [e1]
  rw [vp_cell_q, vp_cell_q, arrV_store]
  congr 2
  funext q
  by_cases hq : q = i.toNatClampNeg
  · subst hq
    simp [updV, va_up, va_rf]
  · simp [updV, va_up, hq]
theorem xr_mmin {x z : Int32} {idx : Nat} (hd : decode y.2.1 pc = .ok (.invokestatic idx, 3)) (hL : Cond.methodLink y.1.cls idx Lib.Math.min.name ∈ xWs) (hst : (st.map fun v => v.category).sum ≤ 8) (hn : pc + 3 = n) (kk : xX G (d + 1) y r0 lim Φ n ls (.int (if z < x then z else x) :: st) M) : xX G (d + 1) y r0 lim Φ pc ls (.int z :: .int x :: st) M := by
  subst hn
  intro p e R s m args below meth c Zf H locs lo hΦ hC hw hS hl hb
  have hts := xk_ts hC.2.2.2.2.2.2.2.1 args
  obtain ⟨hR1, hR2, hR3, hR4⟩ := hC.2.2.2.2.2.2.2.2.2.2
  exact va_mmin hC.1 hC.2.1 (hC.2.2.2.1.trans hl.1.1.symm) hC.2.2.2.2.1 (hts _ hL) (hts _ kp_static_Lib_Math_min_name) (hts _ kp_init_java_lang_Math) (hts _ kp_code_Lib_Math_min_name) (by omega) (by omega) (by omega) (by omega) hd (kk p e R s m args below meth c Zf H locs lo hΦ hC hw hS hl hb)
theorem xr_mmax {x z : Int32} {idx : Nat} (hd : decode y.2.1 pc = .ok (.invokestatic idx, 3)) (hL : Cond.methodLink y.1.cls idx Lib.Math.max.name ∈ xWs) (hst : (st.map fun v => v.category).sum ≤ 8) (hn : pc + 3 = n) (kk : xX G (d + 1) y r0 lim Φ n ls (.int (if x < z then z else x) :: st) M) : xX G (d + 1) y r0 lim Φ pc ls (.int z :: .int x :: st) M := by
  subst hn
  intro p e R s m args below meth c Zf H locs lo hΦ hC hw hS hl hb
  have hts := xk_ts hC.2.2.2.2.2.2.2.1 args
  obtain ⟨hR1, hR2, hR3, hR4⟩ := hC.2.2.2.2.2.2.2.2.2.2
  exact va_mmax hC.1 hC.2.1 (hC.2.2.2.1.trans hl.1.1.symm) hC.2.2.2.2.1 (hts _ hL) (hts _ kp_static_Lib_Math_max_name) (hts _ kp_init_java_lang_Math) (hts _ kp_code_Lib_Math_max_name) (by omega) (by omega) (by omega) (by omega) hd (kk p e R s m args below meth c Zf H locs lo hΦ hC hw hS hl hb)
theorem xr_mabs {x : Int32} {idx : Nat} (hd : decode y.2.1 pc = .ok (.invokestatic idx, 3)) (hL : Cond.methodLink y.1.cls idx Lib.Math.abs.name ∈ xWs) (hst : (st.map fun v => v.category).sum ≤ 8) (hn : pc + 3 = n) (kk : xX G (d + 1) y r0 lim Φ n ls (.int (if 0 ≤ x then x else 0 - x) :: st) M) : xX G (d + 1) y r0 lim Φ pc ls (.int x :: st) M := by
  subst hn
  intro p e R s m args below meth c Zf H locs lo hΦ hC hw hS hl hb
  have hts := xk_ts hC.2.2.2.2.2.2.2.1 args
  obtain ⟨hR1, hR2, hR3, hR4⟩ := hC.2.2.2.2.2.2.2.2.2.2
  exact va_mabs hC.1 hC.2.1 (hC.2.2.2.1.trans hl.1.1.symm) hC.2.2.2.2.1 (hts _ hL) (hts _ kp_static_Lib_Math_abs_name) (hts _ kp_init_java_lang_Math) (hts _ kp_code_Lib_Math_abs_name) (by omega) (by omega) (by omega) (by omega) hd (kk p e R s m args below meth c Zf H locs lo hΦ hC hw hS hl hb)
theorem xr_objInit {a idx : Nat} (hd : decode y.2.1 pc = .ok (.invokespecial idx, 3)) (hL : Cond.methodLink y.1.cls idx objectInit ∈ xWs) (hst : (st.map fun v => v.category).sum ≤ 8) (hn : pc + 3 = n) (kk : xX G (d + 1) y r0 lim Φ n ls st M) : xX G (d + 1) y r0 lim Φ pc ls (.ref a :: st) M := by
  subst hn
  intro p e R s m args below meth c Zf H locs lo hΦ hC hw hS hl hb
  have hts := xk_ts hC.2.2.2.2.2.2.2.1 args
  obtain ⟨hR1, hR2, hR3, hR4⟩ := hC.2.2.2.2.2.2.2.2.2.2
  exact W.objInit hC.1 hC.2.1 hC.2.2.2.2.1 (hts _ hL) (hts _ kp_instanceMethod_objectInit) (hts _ kp_code_objectInit) rfl (by rw [hC.2.2.2.1]; exact hl.1.1) rfl hd (by omega) (by show 2 * 0 + _ + 12 ≤ _; omega) (kk p e R s m args below meth c Zf H locs lo hΦ hC hw hS hl hb)
theorem xr_new {idx ci : Nat} {C : String} {N : Nat} {fs : List Value} (hd : decode y.2.1 pc = .ok (.new idx, 3)) (hL : Cond.classLink y.1.cls idx C ∈ xWs) (hci : ((vwCl[ci]?).map fun q => (q.1, q.2.2)) = some (C, N)) (hfs : ∀ j, j < N → defaultValue (xft ci j) = vp_V fs j) (hlim : M.2.1 + 1 ≤ lim.1 ∧ M.2.2 + N ≤ lim.2) (hn : pc + 3 = n) (kk : xX G d y r0 lim Φ n ls (.ref M.2.1 :: st) (xu M.1 M.2.1 (ob ci fs), (M.2.1 + 1, M.2.2 + N))) : xX G d y r0 lim Φ pc ls st M := by
  subst hn
  intro p e R s m args below meth c Zf H locs lo hΦ hC hw hS hl hb
  obtain ⟨⟨C1, T, N1⟩, hcl, hcn⟩ := Option.map_eq_some_iff.mp hci
  have e1 : C = C1 := (congrArg Prod.fst hcn).symm
  have e2 : N = N1 := (congrArg Prod.snd hcn).symm
  subst e1
  subst e2
  obtain ⟨C', T', N', hcl', hin, hty, hnm, hown, hins, hini⟩ := xCl_all (vwCl_lt hcl)
  cases hcl.symm.trans hcl'
  have hxk := hC.2.2.2.2.2.2.2.1
  have hts := xk_ts hxk args
  obtain ⟨hR1, hR2, hR3, hR4⟩ := hC.2.2.2.2.2.2.2.2.2.2
  have hKn := hxk.2.1 ci _ hcl
  refine W.newcK hC.1 hC.2.1 hC.2.2.2.2.1 (hts _ hL) (hts _ hins) (hts _ hini) rfl hd (by omega) (by omega) hKn.2.1 hw.1 fun H1 kC hkC e1 z1 o1 => ?_
  refine W.cs (cells' := M.2.1 + 1 - r0.1) (slots' := M.2.2 + N - r0.2) (by omega) (by omega) ?_
  exact kk p e R s m args below meth c Zf H1 locs lo hΦ hC (xw_new hw (by rw [z1, hw.1]) (by rw [hw.1]; exact o1) ⟨_, hcl, (u_born (xft ci) hts hin hKn hkC e1 hty).to hfs⟩) ⟨Nat.le_trans hS.1 (by rw [z1, hw.1]; omega), fun q h1 h2 => (o1 q (by rw [← hw.1]; exact Nat.lt_of_lt_of_le h1 hS.1)).trans (hS.2.1 q h1 h2), hS.2.2⟩ hl ⟨by show _ ≤ M.2.1 + 1; omega, by show _ ≤ M.2.2 + N; omega, hlim.1, hlim.2⟩
theorem arrOfT_eq {s : State} {c1 c2 : ClassId} {ty : FieldType} (h1 : s.vm.findClass ("[" ++ ty.toString) = some c1) (h2 : s.vm.findClass ("[" ++ ty.toString) = some c2) : c1 = c2 := Option.some.inj (h1.symm.trans h2)
theorem xr_newarray {z : Int32} {N t : Nat} {at0 : ArrayType} (hd : decode y.2.1 pc = .ok (.newarray at0, 2)) (ht : (at0 = .int ∧ t = 0) ∨ (at0 = .char ∧ t = 1)) (hz : ¬ z < 0) (hN : z.toNatClampNeg = N) (hbig : N ≤ 100000) (hlim : M.2.1 + 1 ≤ lim.1 ∧ M.2.2 + N ≤ lim.2) (hn : pc + 2 = n) (kk : xX G d y r0 lim Φ n ls (.ref M.2.1 :: st) (xu M.1 M.2.1 (aI t N (fun _ => 0)), (M.2.1 + 1, M.2.2 + N))) : xX G d y r0 lim Φ pc ls (.int z :: st) M := by
  subst hn
  intro p e R s m args below meth c Zf H locs lo hΦ hC hw hS hl hb
  have hxk := hC.2.2.2.2.2.2.2.1
  have hts := xk_ts hxk args
  obtain ⟨hR1, hR2, hR3, hR4⟩ := hC.2.2.2.2.2.2.2.2.2.2
  have h4 := hxk.2.2.2.1
  have key : ∀ (ty : FieldType), newarray.typeOf at0 = ty → ty = xTy t → (Cond.arrayClass ty).before args s = true → componentBytes ty ≤ 4 → defaultValue ty = .int 0 → va_RA s (G.2.2.1 t) ty → (∀ c, va_RA s c ty → s.vm.findClass ("[" ++ ty.toString) = some c) → W p G.1 e R s m args below meth c H locs (M.2.1 - r0.1) (M.2.2 - r0.2) Zf (F0 m pc lo (.int z :: st)) := by
    intro ty hty hty2 hac hcb hdv hra hraf
    subst hty
    refine va_newaK hC.1 hC.2.1 hac rfl hd rfl hz hN (Nat.le_trans (Nat.mul_le_mul hbig hcb) (by decide)) (by omega) (by omega) hw.1 fun H1 cA e1 z1 o1 hAr hNm => ?_
    have hcA : cA = G.2.2.1 t := Option.some.inj (hNm.symm.trans (hraf _ hra))
    subst hcA
    refine W.cs (cells' := M.2.1 + 1 - r0.1) (slots' := M.2.2 + N - r0.2) (by omega) (by omega) ?_
    refine kk p e R s m args below meth c Zf H1 locs lo hΦ hC (xw_new hw (by rw [z1, hw.1]) (by rw [hw.1]; exact o1) ?_) ⟨Nat.le_trans hS.1 (by rw [z1, hw.1]; omega), fun q h1 h2 => (o1 q (by rw [← hw.1]; exact Nat.lt_of_lt_of_le h1 hS.1)).trans (hS.2.1 q h1 h2), hS.2.2⟩ hl ⟨by show _ ≤ M.2.1 + 1; omega, by show _ ≤ M.2.2 + N; omega, hlim.1, hlim.2⟩
    show H1[M.2.1]? = some (vp_cell _ _)
    rw [e1, hdv]
    rfl
  rcases ht with ⟨rfl, rfl⟩ | ⟨rfl, rfl⟩
  · exact key .int rfl rfl (h4.1 args) (by decide) rfl (hxk.2.2.1 0 (by omega)).2 (fun c h => h)
  · exact key .char rfl rfl (h4.2 args) (by decide) rfl (hxk.2.2.1 1 (by omega)).2 (fun c h => h)
theorem xr_anewarray {z : Int32} {N t idx : Nat} {C : String} (hd : decode y.2.1 pc = .ok (.anewarray idx, 3)) (hL : Cond.classLink y.1.cls idx C ∈ xWs) (ht : (C = RX1 ∧ t = 2) ∨ (C = RX2 ∧ t = 3)) (hz : ¬ z < 0) (hN : z.toNatClampNeg = N) (hbig : N ≤ 100000) (hlim : M.2.1 + 1 ≤ lim.1 ∧ M.2.2 + N ≤ lim.2) (hn : pc + 3 = n) (kk : xX G d y r0 lim Φ n ls (.ref M.2.1 :: st) (xu M.1 M.2.1 (aR t N (fun _ => none)), (M.2.1 + 1, M.2.2 + N))) : xX G d y r0 lim Φ pc ls (.int z :: st) M := by
  subst hn
  subst hN
  intro p e R s m args below meth c Zf H locs lo hΦ hC hw hS hl hb
  have hxk := hC.2.2.2.2.2.2.2.1
  have hts := xk_ts hxk args
  obtain ⟨hR1, hR2, hR3, hR4⟩ := hC.2.2.2.2.2.2.2.2.2.2
  have hover : va_AO C s := by
    rcases ht with ⟨rfl, -⟩ | ⟨rfl, -⟩
    · exact hxk.2.2.2.2.1
    · exact hxk.2.2.2.2.2
  have hraf : s.vm.findClass ("[" ++ (FieldType.object C).toString) = some (G.2.2.1 t) := by
    rcases ht with ⟨rfl, rfl⟩ | ⟨rfl, rfl⟩
    · obtain ⟨_, _, -, -, -, h⟩ := (hxk.2.2.1 2 (by omega)).2; exact h
    · obtain ⟨_, _, -, -, -, h⟩ := (hxk.2.2.1 3 (by omega)).2; exact h
  refine W.anew hC.1 hC.2.1 hC.2.2.2.2.1 (hts _ hL) (va_AO.use hover) rfl hd rfl hz (by omega) (by omega) (by omega) fun cA kA comp f1 f2 f3 f4 => ?_
  have hcA : cA = G.2.2.1 t := Option.some.inj (f1.symm.trans hraf)
  subst hcA
  generalize hH1 : H.push ({ cls := G.2.2.1 t, slots := Array.replicate z.toNatClampNeg .null, vm := .none } : Cell) = H1
  have z1 : H1.size = H.size + 1 := by rw [← hH1, Array.size_push]
  have e1 : H1[H.size]? = some (arrV (G.2.2.1 t) z.toNatClampNeg (fun _ => .null)) := by rw [← hH1, Array.getElem?_push_size, ← arrV_new]
  have o1 : ∀ q : Nat, q < H.size → H1[q]? = H[q]? := fun q hq => by rw [← hH1, Array.getElem?_push, if_neg (Nat.ne_of_lt hq)]
  have hsz := hw.1
  rw [show (Value.ref H.size) = Value.ref M.2.1 by rw [hsz]]
  refine W.cs (cells' := M.2.1 + 1 - r0.1) (slots' := M.2.2 + z.toNatClampNeg - r0.2) (by omega) (by omega) ?_
  refine kk p e R s m args below meth c Zf H1 locs lo hΦ hC (xw_new hw z1 o1 ?_) ⟨Nat.le_trans hS.1 (by omega), fun q h1 h2 => (o1 q (Nat.lt_of_lt_of_le h1 hS.1)).trans (hS.2.1 q h1 h2), hS.2.2⟩ hl ⟨by show _ ≤ M.2.1 + 1; omega, by show _ ≤ M.2.2 + _; omega, hlim.1, hlim.2⟩
  show H1[M.2.1]? = some (vp_cell _ _)
  rw [← hsz, e1]
  rfl
end XH
end
section
/-! calls and ends of the X layer -/
theorem xPc_blind {G : xG} {M : xM} {av : List Value} : FrameBlind (va_Pc av (fun U => xw G M U.heap ∧ xk G U)) := fun a U g mk q => ⟨q.1, q.2.1, xk_same (s := U) rfl q.2.2⟩
section XC
variable {G : xG} {d : Nat} {y : xY} {r0 lim : Nat × Nat} {Φ : xF} {ls : List (Nat × Value)} {st : List Value} {M : xM} {pc n : Nat}
/-- what a call goes on with -/
def xK (G : xG) (d : Nat) (y : xY) (r0 lim : Nat × Nat) (Φ : xF) (n : Nat) (ls : List (Nat × Value)) (st : List Value) : Option Value → xM → Prop := fun v M' => xX G d y r0 lim Φ n ls (xps v st) M'
theorem xr_run {p : Program} {e : Env} {R : Room} {s : State} {m : MethodId} {args : Array Value} {below : List Frame} {meth : Method} {c : Code} {Zf : State → Prop} {H : Heap} {locs : List Loc} {lo : Array Slot} {st0 : List Value} {lim2 : Nat × Nat} {a : Array Value}
    (hΦ : Φ p e R s m args below meth c Zf) (hC : xCx G d y r0 lim p R s m meth c) (hw : xw G M H) (hS : va_S (fun q => G.2.2.2 ≤ q) s.heap H locs) (hl : xl lo y.2.2.1 ls) (hb : r0.1 ≤ M.2.1 ∧ r0.2 ≤ M.2.2 ∧ M.2.1 ≤ lim.1 ∧ M.2.2 ≤ lim.2)
    (h1 : M.2.1 ≤ lim2.1 ∧ M.2.2 ≤ lim2.2) (h2 : lim2.1 ≤ lim.1 ∧ lim2.2 ≤ lim.2) (hn : pc + 3 = n)
    (hr : va_Run p G.1 e R s m args below meth c H locs (M.2.1 - r0.1) (M.2.2 - r0.2) (lim2.1 - M.2.1) (lim2.2 - M.2.2) (F0 m pc lo st0) st (xPost G lim2 (xK G d y r0 lim Φ n ls st) a) (fun q => G.2.2.2 ≤ q)) :
    W p G.1 e R s m args below meth c H locs (M.2.1 - r0.1) (M.2.2 - r0.2) Zf (F0 m pc lo st0) := by
  subst hn
  intro T hT X
  obtain ⟨v, st₀, t, T', L, g0, X', hL, e1, e2, ⟨⟨v', M', hv, hQ, hM2, hw2⟩, hz, hk⟩, stp⟩ := hr T hT X
  cases hv
  rw [g0] at hz hk
  have hS2 : va_S (fun q => G.2.2.2 ≤ q) s.heap T'.heap (locs ++ L) := ⟨Nat.le_trans hS.1 (by rw [e1]; exact hz), fun q q1 q2 => by
      rw [e1, hk q (Nat.lt_of_lt_of_le q1 hS.1) q2]; exact hS.2.1 q q1 q2, fun q hq => by
      rcases List.mem_append.mp hq with h | h
      · exact hS.2.2 q h
      · exact hL q h⟩
  have hW := hQ p e R s m args below meth c Zf T'.heap (locs ++ L) lo hΦ hC (by rw [e1]; exact hw2) hS2 hl ⟨by rw [hM2]; omega, by rw [hM2]; omega, by rw [hM2]; exact h2.1, by rw [hM2]; exact h2.2⟩
  have q1 : M.2.1 - r0.1 + (lim2.1 - M.2.1) = M'.2.1 - r0.1 := by rw [hM2]; omega
  have q2 : M.2.2 - r0.2 + (lim2.2 - M.2.2) = M'.2.2 - r0.2 := by rw [hM2]; omega
  rw [q1, q2] at X'
  obtain ⟨t2, a1, b1⟩ := hW T' rfl X'
  refine ⟨t2, stp t2 ?_, b1⟩
  have hst : xps v st = v.toList ++ st := by cases v <;> rfl
  rw [hst] at a1
  exact a1
theorem xr_cb {own : String} {idx np : Nat} {y2 : xY} {lim2 : Nat × Nat} {R : Room} {s : State} {args : Array Value} (hk : xk G s) (hM : xMth y2 np) (hL : Cond.methodLink own idx y2.1 ∈ xWs) (hR1 : d + 1 ≤ R.frames) (hR2 : 38 * (d + 1) ≤ R.locals) :
    CallB R s args own idx y2.1 y2.2.1 y2.2.2.1 y2.2.2.2 [Cond.code y2.1 y2.2.1 y2.2.2.1 y2.2.2.2] { frames := d, cells := lim2.1 - M.2.1, slots := lim2.2 - M.2.2, locals := 38 * d } (lim2.1 - M.2.1) (lim2.2 - M.2.2) np := by
  have hts := xk_ts hk args
  obtain ⟨h1, h2, h3, h4⟩ := hM
  refine ⟨rfl, rfl, hR1, by show 8 + (y2.2.2.1 + 11) + 38 * d ≤ _; omega, fun w hw a' U hW => ?_, List.mem_singleton.mpr rfl, hts _ h1, hts _ h2, h3.1, fun sig h => ?_, hts _ hL⟩
  · rw [List.mem_singleton.mp hw]
    exact word_at hW (good_of_word rfl) (hts _ h1)
  · have h5 := h3.2
    rw [h] at h5
    exact (Option.some.inj h5).symm
theorem xr_cn {own host : String} {idx np : Nat} {y2 : xY} {lim2 : Nat × Nat} {R : Room} {s : State} {args : Array Value} (hk : xk G s) (hM : xMth y2 np) (hL : Cond.methodLinkNest own idx y2.1 host ∈ xWs) (hR1 : d + 1 ≤ R.frames) (hR2 : 38 * (d + 1) ≤ R.locals) :
    va_CN R s args own idx y2.1 host y2.2.1 y2.2.2.1 y2.2.2.2 [Cond.code y2.1 y2.2.1 y2.2.2.1 y2.2.2.2] { frames := d, cells := lim2.1 - M.2.1, slots := lim2.2 - M.2.2, locals := 38 * d } (lim2.1 - M.2.1) (lim2.2 - M.2.2) np := by
  have hts := xk_ts hk args
  obtain ⟨h1, h2, h3, h4⟩ := hM
  refine ⟨⟨rfl, rfl, hR1, by show 8 + (y2.2.2.1 + 11) + 38 * d ≤ _; omega, fun w hw a' U hW => ?_, List.mem_singleton.mpr rfl⟩, hts _ h1, hts _ h2, h3.1, fun sig h => ?_, hts _ hL⟩
  · rw [List.mem_singleton.mp hw]
    exact word_at hW (good_of_word rfl) (hts _ h1)
  · have h5 := h3.2
    rw [h] at h5
    exact (Option.some.inj h5).symm
theorem xr_callV {b ci np idx : Nat} {fs As stk : List Value} {y2 : xY} {lim2 : Nat × Nat} (hd : decode y.2.1 pc = .ok (.invokevirtual idx, 3)) (hL : xLnk y.1.cls idx y2.1) (hM : xMth y2 np) (hI : Cond.instanceMethod y2.1 ∈ xWs ∧ Cond.selects y2.1.cls y2.1 y2.1 ∈ xWs) (ha : M.1 b = ob ci fs) (hc : ((vwCl[ci]?).map fun q => q.1) = some y2.1.cls) (hnp : As.length = np) (hstk : stk = As.reverse ++ .ref b :: st) (hst : (st.map fun v => v.category).sum ≤ 8) (hn : pc + 3 = n) (h2 : lim2.1 ≤ lim.1 ∧ lim2.2 ≤ lim.2)
    (k : xMet G d y2 (.ref b :: As) M lim2 (xK G (d + 1) y r0 lim Φ n ls st)) : xX G (d + 1) y r0 lim Φ pc ls stk M := by
  subst hstk
  intro p e R s m args below meth c Zf H locs lo hΦ hC hw hS hl hb
  have hxk := hC.2.2.2.2.2.2.2.1
  have hts := xk_ts hxk args
  obtain ⟨hR1, hR2, hR3, hR4⟩ := hC.2.2.2.2.2.2.2.2.2.2
  obtain ⟨q, hcl, hq⟩ := Option.map_eq_some_iff.mp hc
  obtain ⟨⟨r', hr', cellB, g1, g2, g3, -⟩, -⟩ := xw_in hw ha (vwCl_lt hcl)
  cases hr'.symm.trans hcl
  have hfc := (hxk.2.1 ci _ hcl).2.1
  have hPV : PreV s H y2.1.cls b (va_Pc (.ref b :: As) (fun U => xw G M U.heap ∧ xk G U)) As := ⟨xPc_blind, ⟨cellB, g1, by rw [g3]; rfl, by rw [g2, ← hq]; exact hfc⟩, fun U hU hW => ⟨rfl, by rw [hU]; exact hw, xk_moved hW hxk⟩⟩
  have hroom : 2 * (F0 m pc lo (As.reverse ++ .ref b :: st)).monitorRoom + (st.map fun v => v.category).sum ≤ 8 := lv_room hst
  refine xr_run (st := st) hΦ hC hw hS hl hb k.1 h2 hn (a := (Value.ref b :: As).toArray) ?_
  rcases hL with hL | ⟨host, hL⟩
  · exact va_runV (Ts := xWs) ⟨hC.1, hC.2.1, hC.2.2.2.1, hC.2.2.2.2.1, hts⟩ k.2 ⟨xr_cb hxk hM hL hR1 hR2, hts _ hI.1, hts _ hI.2⟩ hPV rfl hnp hl.1.1 rfl hroom hd ⟨by omega, by omega⟩
  · exact va_runVN (Ts := xWs) ⟨hC.1, hC.2.1, hC.2.2.2.1, hC.2.2.2.2.1, hts⟩ k.2 ⟨xr_cn hxk hM hL hR1 hR2, hts _ hI.1, hts _ hI.2⟩ hPV rfl hnp hl.1.1 rfl hroom hd ⟨by omega, by omega⟩
theorem xr_callS {np idx : Nat} {As stk : List Value} {y2 : xY} {lim2 : Nat × Nat} (hd : decode y.2.1 pc = .ok (.invokestatic idx, 3)) (hL : xLnk y.1.cls idx y2.1) (hM : xMth y2 np) (hI : Cond.static y2.1 ∈ xWs) (hnp : As.length = np) (hstk : stk = As.reverse ++ st) (hst : (st.map fun v => v.category).sum ≤ 8) (hn : pc + 3 = n) (h2 : lim2.1 ≤ lim.1 ∧ lim2.2 ≤ lim.2)
    (k : xMet G d y2 As M lim2 (xK G (d + 1) y r0 lim Φ n ls st)) : xX G (d + 1) y r0 lim Φ pc ls stk M := by
  subst hstk
  intro p e R s m args below meth c Zf H locs lo hΦ hC hw hS hl hb
  have hxk := hC.2.2.2.2.2.2.2.1
  have hts := xk_ts hxk args
  obtain ⟨hR1, hR2, hR3, hR4⟩ := hC.2.2.2.2.2.2.2.2.2.2
  have hPV : PreS s H (va_Pc As (fun U => xw G M U.heap ∧ xk G U)) As := ⟨xPc_blind, fun U hU hW => ⟨rfl, by rw [hU]; exact hw, xk_moved hW hxk⟩⟩
  have hroom : 2 * (F0 m pc lo (As.reverse ++ st)).monitorRoom + (st.map fun v => v.category).sum ≤ 8 := lv_room hst
  refine xr_run (st := st) hΦ hC hw hS hl hb k.1 h2 hn (a := As.toArray) ?_
  rcases hL with hL | ⟨host, hL⟩
  · exact va_runS (Ts := xWs) ⟨hC.1, hC.2.1, hC.2.2.2.1, hC.2.2.2.2.1, hts⟩ k.2 ⟨xr_cb hxk hM hL hR1 hR2, hts _ hI⟩ hPV rfl hnp hl.1.1 rfl hroom hd ⟨by omega, by omega⟩
  · exact va_runSN (Ts := xWs) ⟨hC.1, hC.2.1, hC.2.2.2.1, hC.2.2.2.2.1, hts⟩ k.2 ⟨xr_cn hxk hM hL hR1 hR2, hts _ hI, trivial⟩ hPV rfl hnp hl.1.1 rfl hroom hd ⟨by omega, by omega⟩
theorem xr_callI {b np idx : Nat} {As stk : List Value} {y2 : xY} {lim2 : Nat × Nat} (hd : decode y.2.1 pc = .ok (.invokespecial idx, 3)) (hL : xLnk y.1.cls idx y2.1) (hM : xMth y2 np) (hret : y2.2.2.2 = none) (hini : y2.1.name = "<init>") (hI : Cond.instanceMethod y2.1 ∈ xWs) (hnp : As.length = np) (hstk : stk = As.reverse ++ .ref b :: st) (hst : (st.map fun v => v.category).sum ≤ 8) (hn : pc + 3 = n) (h2 : lim2.1 ≤ lim.1 ∧ lim2.2 ≤ lim.2)
    (k : xMet G d y2 (.ref b :: As) M lim2 (xK G (d + 1) y r0 lim Φ n ls st)) : xX G (d + 1) y r0 lim Φ pc ls stk M := by
  subst hstk
  intro p e R s m args below meth c Zf H locs lo hΦ hC hw hS hl hb
  have hxk := hC.2.2.2.2.2.2.2.1
  have hts := xk_ts hxk args
  obtain ⟨hR1, hR2, hR3, hR4⟩ := hC.2.2.2.2.2.2.2.2.2.2
  have hPV : PreS s H (va_Pc (.ref b :: As) (fun U => xw G M U.heap ∧ xk G U)) (.ref b :: As) := ⟨xPc_blind, fun U hU hW => ⟨rfl, by rw [hU]; exact hw, xk_moved hW hxk⟩⟩
  have hroom : 2 * (F0 m pc lo (As.reverse ++ .ref b :: st)).monitorRoom + (st.map fun v => v.category).sum ≤ 8 := lv_room hst
  refine xr_run (st := st) hΦ hC hw hS hl hb k.1 h2 hn (a := (Value.ref b :: As).toArray) ?_
  obtain ⟨yn, yb, yl, yr⟩ := y2
  cases hret
  rcases hL with hL | ⟨host, hL⟩
  · exact va_runI (Ts := xWs) ⟨hC.1, hC.2.1, hC.2.2.2.1, hC.2.2.2.2.1, hts⟩ k.2 ⟨xr_cb hxk hM hL hR1 hR2, hini, hts _ hI⟩ hPV rfl hnp hl.1.1 rfl hroom hd ⟨by omega, by omega⟩
  · exact va_runIN (Ts := xWs) ⟨hC.1, hC.2.1, hC.2.2.2.1, hC.2.2.2.2.1, hts⟩ k.2 ⟨xr_cn hxk hM hL hR1 hR2, hini, hts _ hI⟩ hPV rfl hnp hl.1.1 rfl hroom hd ⟨by omega, by omega⟩
theorem xr_ireturn {v : Int32} {Q : Option Value → xM → Prop} {ty : FieldType} (hd : decode y.2.1 pc = .ok (.ireturn, 1)) (hr : y.2.2.2 = some ty) (hnar : narrow ty (.int v) = .int v) (hlim : M.2 = lim) (hq : Q (some (.int v)) M) : xX G d y r0 lim (xΦ G r0 lim Q) pc ls [.int v] M := by
  intro p e R s m args below meth c Zf H locs lo hΦ hC hw hS hl hb
  cases hΦ
  rw [hlim]
  exact W.zret hC.1 hC.2.1 (hC.2.2.1.trans hr) hnar (fun t ht hW => ⟨⟨_, M, rfl, hq, hlim, by rw [ht]; exact hw⟩, hS.F ht⟩) hS.2.2 hd hC.2.2.2.2.2.2.1
theorem xr_areturn {a : Nat} {Q : Option Value → xM → Prop} {nm : String} (hd : decode y.2.1 pc = .ok (.areturn, 1)) (hr : y.2.2.2 = some (.object nm)) (hlim : M.2 = lim) (hq : Q (some (.ref a)) M) : xX G d y r0 lim (xΦ G r0 lim Q) pc ls [.ref a] M := by
  intro p e R s m args below meth c Zf H locs lo hΦ hC hw hS hl hb
  cases hΦ
  rw [hlim]
  exact W.aret hC.1 hC.2.1 (hC.2.2.1.trans hr) (Or.inl ⟨_, rfl⟩) (Or.inr ⟨_, rfl⟩) (fun t ht hW => ⟨⟨_, M, rfl, hq, hlim, by rw [ht]; exact hw⟩, hS.F ht⟩) hS.2.2 hd hC.2.2.2.2.2.2.1
theorem xr_return {Q : Option Value → xM → Prop} (hd : decode y.2.1 pc = .ok (.return_, 1)) (hr : y.2.2.2 = none) (hlim : M.2 = lim) (hq : Q none M) : xX G d y r0 lim (xΦ G r0 lim Q) pc ls [] M := by
  intro p e R s m args below meth c Zf H locs lo hΦ hC hw hS hl hb
  cases hΦ
  rw [hlim]
  exact W.vret hC.1 hC.2.1 (hC.2.2.1.trans hr) (fun t ht hW => ⟨⟨_, M, rfl, hq, hlim, by rw [ht]; exact hw⟩, hS.F ht⟩) hS.2.2 hd hC.2.2.2.2.2.2.1
/-- System.arraycopy of ints -/
theorem xr_copy {a a0 n0 n1 idx : Nat} {f g : Nat → Int32} {sp dp nn : Int32} (hd : decode y.2.1 pc = .ok (.invokestatic idx, 3)) (hL : Cond.methodLink y.1.cls idx arraycopyName ∈ xWs) (ha0 : M.1 a0 = aI 0 n0 f) (ha1 : M.1 a = aI 0 n1 g) (h1 : ¬ sp < 0) (h2 : ¬ dp < 0) (h3 : ¬ nn < 0) (h4 : sp.toNatClampNeg + nn.toNatClampNeg ≤ n0) (h5 : dp.toNatClampNeg + nn.toNatClampNeg ≤ n1) (hst : (st.map fun v => v.category).sum ≤ 8) (hn : pc + 3 = n)
    (kk : xX G (d + 1) y r0 lim Φ n ls st (xu M.1 a (aI 0 n1 (va_cpy f g sp.toNatClampNeg dp.toNatClampNeg nn.toNatClampNeg)), M.2)) : xX G (d + 1) y r0 lim Φ pc ls (.int nn :: .int dp :: .ref a :: .int sp :: .ref a0 :: st) M := by
  subst hn
  intro p e R s m args below meth c Zf H locs lo hΦ hC hw hS hl hb
  have hxk := hC.2.2.2.2.2.2.2.1
  have hts := xk_ts hxk args
  obtain ⟨hR1, hR2, hR3, hR4⟩ := hC.2.2.2.2.2.2.2.2.2.2
  obtain ⟨hc0, hr0⟩ := xw_inI hw ha0
  obtain ⟨hc1, hr1⟩ := xw_inI hw ha1
  have hfr : nativeFrameWords "java/lang/System" "arraycopy" 5 + 11 ≤ 30 := by decide +kernel
  have nneg : ∀ z : Int32, ¬ z < 0 → z.toInt = (z.toNatClampNeg : Int) := by
    intro z hz
    have hz0 : (0 : Int) ≤ z.toInt := by
      have := Int32.not_lt.mp hz
      simpa using Int32.le_iff_toInt_le.mp this
    show z.toInt = ((z.toInt.toNat : Nat) : Int)
    omega
  intro T hT X
  have hA := (hxk.2.2.1 0 (by omega)).1
  obtain ⟨-, k0, hk0, cm0, hkk0⟩ := hA n0 (fun j => .int (f j))
  obtain ⟨-, k1, hk1, cm1, hkk1⟩ := hA n1 (fun j => .int (g j))
  obtain ⟨vm', X', step⟩ := X.arraycopy hC.1 hC.2.2.2.2.1 (hts _ hL) (hts _ kp_native_arraycopyName) (hts _ kp_static_arraycopyName) (hts _ kp_init_java_lang_System) (src := a0) (dst := a) (cs := vp_cell (G.2.2.1 0) (n0, .inl f)) (cd := vp_cell (G.2.2.1 0) (n1, .inl g)) (srcPos := sp) (destPos := dp) (n := nn) (by rw [hT]; exact hc0) (by rw [hT]; exact hc1)
    (fun _ h => by cases h) (fun _ h => by cases h) (fun h => by cases h) (fun h => by cases h) hk0 hk1 hkk0 hkk1 (by simp [show refKind (xTy 0) = false from rfl]) h1 h2 h3
    (by rw [nneg sp h1, nneg nn h3]; show ¬ _ > ((arrV (G.2.2.1 0) n0 (fun j => .int (f j))).slots.size : Int); rw [arrV_size]; omega)
    (by rw [nneg dp h2, nneg nn h3]; show ¬ _ > ((arrV (G.2.2.1 0) n1 (fun j => .int (g j))).slots.size : Int); rw [arrV_size]; omega)
    (fun vm₁ _ i hi => by
      have e : (vp_cell (G.2.2.1 0) (n0, .inl f)).slots.getD (sp.toNatClampNeg + i) .null = .int (f (sp.toNatClampNeg + i)) := by
        show (arrV (G.2.2.1 0) n0 (fun j => .int (f j))).slots.getD _ _ = _
        rw [Array.getD_eq_getD_getElem?, arrV_read _ _ (by omega)]
        rfl
      refine ⟨?_, ?_⟩
      · rw [e]
        rfl
      · rw [e]
        exact trivial)
    (g := F0 m pc lo (.int nn :: .int dp :: .ref a :: .int sp :: .ref a0 :: st)) rfl (by rw [hC.2.2.2.1]; exact hl.1.1) (rest := st) rfl (by rw [hC.2.1]; exact hd) (by omega) (by show 2 * 0 + _ + _ ≤ _; omega)
  have e1 : copied (vp_cell (G.2.2.1 0) (n0, .inl f)) (vp_cell (G.2.2.1 0) (n1, .inl g)) sp dp nn = vp_cell (G.2.2.1 0) (n1, .inl (va_cpy f g sp.toNatClampNeg dp.toNatClampNeg nn.toNatClampNeg)) := va_copied (fun z => .int z) _ _ f g h4
  rw [e1] at X' step
  have hlt : a < H.size := (Array.getElem?_eq_some_iff.mp hc1).1
  have hheap : ((T.setVm vm').setCell a (vp_cell (G.2.2.1 0) (n1, .inl (va_cpy f g sp.toNatClampNeg dp.toNatClampNeg nn.toNatClampNeg)))).heap = H.setIfInBounds a (vp_cell (G.2.2.1 0) (n1, .inl (va_cpy f g sp.toNatClampNeg dp.toNatClampNeg nn.toNatClampNeg))) := by rw [← hT]; rfl
  have oq : ∀ q : Nat, q ≠ a → (H.setIfInBounds a (vp_cell (G.2.2.1 0) (n1, .inl (va_cpy f g sp.toNatClampNeg dp.toNatClampNeg nn.toNatClampNeg))))[q]? = H[q]? := fun q hq => by simp [Array.getElem?_setIfInBounds, Ne.symm hq]
  have hw2 := xw_put (c := aI 0 n1 (va_cpy f g sp.toNatClampNeg dp.toNatClampNeg nn.toNatClampNeg)) (H1 := H.setIfInBounds a (vp_cell (G.2.2.1 0) (n1, .inl (va_cpy f g sp.toNatClampNeg dp.toNatClampNeg nn.toNatClampNeg)))) hw (by simp) oq hr1 (show (H.setIfInBounds a _)[a]? = some _ by simp [Array.getElem?_setIfInBounds, hlt])
  obtain ⟨t, a1, b1⟩ := kk p e R s m args below meth c Zf _ _ lo hΦ hC hw2 ⟨by simp; exact hS.1, fun q g1 g2 => by
      rw [oq q (fun e => g2 (by rw [e]; exact hr1.1))]
      exact hS.2.1 q g1 g2, fun q hq => by
      rcases List.mem_append.mp hq with h | h
      · exact hS.2.2 q h
      · obtain ⟨z, -, hz⟩ := List.mem_map.mp h
        rw [← hz]
        exact hr1.1⟩ hl hb _ hheap X'
  exact ⟨t, step t a1, b1⟩
end XC
end
section
/-! shapes of memory, truth values, numbers -/
def b2i (p : Prop) [Decidable p] : Int32 := if p then nI 1 else nI 0
theorem b2i_t {p : Prop} [Decidable p] (h : p) : b2i p = nI 1 := if_pos h
theorem b2i_f {p : Prop} [Decidable p] (h : ¬ p) : b2i p = nI 0 := if_neg h
theorem b2i_0 {p : Prop} [Decidable p] : b2i p = 0 ↔ ¬ p := by
  unfold b2i
  by_cases h : p
  · rw [if_pos h]; exact ⟨fun e => absurd e (by decide), fun e => absurd h e⟩
  · rw [if_neg h]; exact ⟨fun _ => h, fun _ => nI_0⟩
theorem b2i_iff {p q : Prop} [Decidable p] [Decidable q] (h : p ↔ q) : b2i p = b2i q := by
  unfold b2i
  by_cases hp : p
  · rw [if_pos hp, if_pos (h.mp hp)]
  · rw [if_neg hp, if_neg (fun x => hp (h.mpr x))]
theorem b2i_nar {p : Prop} [Decidable p] : narrow .boolean (.int (b2i p)) = .int (b2i p) := by
  unfold b2i
  by_cases h : p
  · rw [if_pos h]; decide +kernel
  · rw [if_neg h]; decide +kernel
theorem nar_1 : narrow .boolean (.int (nI 1)) = .int (nI 1) := by decide +kernel
theorem nar_0 : narrow .boolean (.int (nI 0)) = .int (nI 0) := by decide +kernel
theorem nt (n : Nat) (h : n < 2 ^ 31) : (nI n).toInt = (n : Int) := nI_toInt h
theorem i_lt (a b : Int32) : a < b ↔ a.toInt < b.toInt := Int32.lt_iff_toInt_lt
theorem i_le (a b : Int32) : a ≤ b ↔ a.toInt ≤ b.toInt := Int32.le_iff_toInt_le
theorem i_eq (a b : Int32) : a = b ↔ a.toInt = b.toInt := ⟨fun h => by rw [h], fun h => Int32.toInt_inj.mp h⟩
theorem i_rng (x : Int32) : -2147483648 ≤ x.toInt ∧ x.toInt < 2147483648 := by
  have h1 := Int32.le_toInt x
  have h2 := Int32.toInt_lt x
  omega
theorem i_of {x : Int32} {n : Nat} (h : x.toInt = (n : Int)) : x = nI n := by
  have hr := i_rng x
  exact (i_eq _ _).mpr (by rw [h, nt n (by omega)])
theorem i_ix {x : Int32} {n : Nat} (h : x.toInt = (n : Int)) : x.toNatClampNeg = n := by
  show x.toInt.toNat = n
  rw [h]; rfl
theorem i_bmod {z : Int} (h1 : -2147483648 ≤ z) (h2 : z < 2147483648) : z.bmod (2 ^ 32) = z := by
  rw [Int.bmod_def]
  split <;> omega
theorem i_add {x y : Int32} (h1 : -2147483648 ≤ x.toInt + y.toInt) (h2 : x.toInt + y.toInt < 2147483648) : (x + y).toInt = x.toInt + y.toInt := by
  rw [Int32.toInt_add]; exact i_bmod h1 h2
theorem i_sub {x y : Int32} (h1 : -2147483648 ≤ x.toInt - y.toInt) (h2 : x.toInt - y.toInt < 2147483648) : (x - y).toInt = x.toInt - y.toInt := by
  rw [Int32.toInt_sub]; exact i_bmod h1 h2
theorem i_mul {x y : Int32} (h1 : -2147483648 ≤ x.toInt * y.toInt) (h2 : x.toInt * y.toInt < 2147483648) : (x * y).toInt = x.toInt * y.toInt := by
  rw [Int32.toInt_mul]; exact i_bmod h1 h2
theorem i_m1 : (-1 : Int32).toInt = -1 := by decide +kernel
theorem i_in {x : Int32} {n : Nat} (h : 0 ≤ x.toInt) (h2 : x.toInt < n) : vp_in x n := vp_in_iff.mpr ⟨h, h2⟩
/-- a block of n cells from a on -/
def bput (f : Nat → xC) (a n : Nat) (c : Nat → xC) : Nat → xC := fun q => if a ≤ q ∧ q < a + n then c (q - a) else f q
theorem bput_in {f : Nat → xC} {a n i : Nat} {c : Nat → xC} (h : i < n) : bput f a n c (a + i) = c i := by
  unfold bput
  rw [if_pos ⟨by omega, by omega⟩, Nat.add_sub_cancel_left]
theorem bput_out {f : Nat → xC} {a n q : Nat} {c : Nat → xC} (h : q < a ∨ a + n ≤ q) : bput f a n c q = f q := by
  unfold bput
  rw [if_neg (by omega)]
theorem bput_xu {f : Nat → xC} {a n i : Nat} {c : Nat → xC} {x : xC} (h : i < n) : xu (bput f a n c) (a + i) x = bput f a n (fun j => if j = i then x else c j) := by
  funext q
  unfold xu bput
  by_cases hq : q = a + i
  · subst hq
    rw [if_pos rfl, if_pos ⟨by omega, by omega⟩, Nat.add_sub_cancel_left]
    exact (if_pos rfl).symm
  · rw [if_neg hq]
    by_cases h2 : a ≤ q ∧ q < a + n
    · rw [if_pos h2, if_pos h2]
      exact (if_neg (show ¬ q - a = i by omega)).symm
    · rw [if_neg h2, if_neg h2]
theorem bput_congr {f : Nat → xC} {a n : Nat} {c c' : Nat → xC} (h : ∀ i, i < n → c i = c' i) : bput f a n c = bput f a n c' := by
  funext q
  unfold bput
  by_cases h2 : a ≤ q ∧ q < a + n
  · rw [if_pos h2, if_pos h2, h _ (by omega)]
  · rw [if_neg h2, if_neg h2]
theorem bput_bput {f : Nat → xC} {a n : Nat} {c c' : Nat → xC} : bput (bput f a n c) a n c' = bput f a n c' := by
  funext q
  unfold bput
  by_cases h2 : a ≤ q ∧ q < a + n
  · rw [if_pos h2, if_pos h2]
  · rw [if_neg h2, if_neg h2, if_neg h2]
theorem bput_self {f : Nat → xC} {a n : Nat} {c : Nat → xC} (h : ∀ i, i < n → f (a + i) = c i) : bput f a n c = f := by
  funext q
  unfold bput
  by_cases h2 : a ≤ q ∧ q < a + n
  · rw [if_pos h2, ← h _ (by omega)]
    congr 1
    omega
  · rw [if_neg h2]
theorem bput_comm {f : Nat → xC} {a n b m : Nat} {c c' : Nat → xC} (h : a + n ≤ b ∨ b + m ≤ a) : bput (bput f a n c) b m c' = bput (bput f b m c') a n c := by
  funext q
  unfold bput
  by_cases h1 : a ≤ q ∧ q < a + n
  · rw [if_neg (show ¬ (b ≤ q ∧ q < b + m) by omega), if_pos h1, if_pos h1]
  · by_cases h2 : b ≤ q ∧ q < b + m
    · rw [if_pos h2, if_neg h1, if_pos h2]
    · rw [if_neg h2, if_neg h1, if_neg h1, if_neg h2]
/-- a state: field, place, value -/
abbrev xS : Type := Nat → Nat → Int32
def up2 (s : xS) (i j : Nat) (v : Int32) : xS := fun a b => if a = i then (if b = j then v else s a b) else s a b
theorem up2_s (s : xS) (i j : Nat) (v : Int32) : up2 s i j v i = upd (s i) j v := by
  funext b
  simp [up2, upd]
theorem up2_n (s : xS) {i a : Nat} (j : Nat) (v : Int32) (h : a ≠ i) : up2 s i j v a = s a := by
  funext b
  simp [up2, h]
theorem up2_ss (s : xS) (i j : Nat) (v : Int32) : up2 s i j v i j = v := by simp [up2]
theorem up2_sn (s : xS) (i : Nat) {j b : Nat} (v : Int32) (h : b ≠ j) : up2 s i j v i b = s i b := by simp [up2, h]
/-- a whole row -/
def ur (s : xS) (i : Nat) (g : Nat → Int32) : xS := fun a => if a = i then g else s a
theorem ur_s (s : xS) (i : Nat) (g : Nat → Int32) : ur s i g i = g := by simp [ur]
theorem ur_n (s : xS) {i a : Nat} (g : Nat → Int32) (h : a ≠ i) : ur s i g a = s a := by simp [ur, h]
theorem ur_up (s : xS) (i j : Nat) (v : Int32) : ur s i (upd (s i) j v) = up2 s i j v := by
  funext a b
  by_cases h : a = i
  · subst h; simp [ur, up2, upd]
  · simp [ur, up2, h]
section XQ
variable {G : xG} {d : Nat} {y : xY} {r0 lim : Nat × Nat} {Φ : xF} {ls : List (Nat × Value)} {st : List Value} {f : Nat → xC} {r : Nat × Nat} {pc n : Nat}
theorem xq_put {a ci k idx : Nat} {fs : List Value} {v : Value} (hd : decode y.2.1 pc = .ok (.putfield idx, 3)) (hF : xFld y.1.cls idx ci k) (hfin : ((vwCl[ci]?).map fun q => (q.2.1 k).2.2.2) = some false) (ha : f a = ob ci fs) (hl0 : Nat.blt k fs.length = true) (hnar : narrow (xft ci k) v = v) (hfit : fits (xft ci k) v = true) (hn : pc + 3 = n) (kk : xX G d y r0 lim Φ n ls st (xu f a (ob ci (fs.set k v)), r)) : xX G d y r0 lim Φ pc ls (v :: .ref a :: st) (f, r) := xr_put (M := (f, r)) hd hF hfin ha hl0 hnar hfit hn kk
theorem xq_putF {a ci k idx : Nat} {fs : List Value} {v : Value} (hd : decode y.2.1 pc = .ok (.putfield idx, 3)) (hF : xFld y.1.cls idx ci k) (hfin : ((vwCl[ci]?).map fun q => (q.2.1 k).2.2.2) = some true) (hini : y.1.name = "<init>") (hown0 : ((vwCl[ci]?).map fun q => q.1) = some y.1.cls) (ha : f a = ob ci fs) (hl0 : Nat.blt k fs.length = true) (hnar : narrow (xft ci k) v = v) (hfit : fits (xft ci k) v = true) (hn : pc + 3 = n) (kk : xX G d y r0 lim Φ n ls st (xu f a (ob ci (fs.set k v)), r)) : xX G d y r0 lim Φ pc ls (v :: .ref a :: st) (f, r) := xr_putF (M := (f, r)) hd hF hfin hini hown0 ha hl0 hnar hfit hn kk
theorem xq_iastore {a nn : Nat} {g : Nat → Int32} {i x : Int32} (hd : decode y.2.1 pc = .ok (.iastore, 1)) (ha : f a = aI 0 nn g) (hin : vp_in i nn) (hn : pc + 1 = n) (kk : xX G d y r0 lim Φ n ls st (xu f a (aI 0 nn (upd g i.toNatClampNeg x)), r)) : xX G d y r0 lim Φ pc ls (.int x :: .int i :: .ref a :: st) (f, r) := xr_iastore (M := (f, r)) hd ha hin hn kk
theorem xq_castore {a nn : Nat} {g : Nat → Int32} {i x : Int32} (hd : decode y.2.1 pc = .ok (.castore, 1)) (ha : f a = aI 1 nn g) (hin : vp_in i nn) (hx : vp_nar .char x = x) (hn : pc + 1 = n) (kk : xX G d y r0 lim Φ n ls st (xu f a (aI 1 nn (upd g i.toNatClampNeg x)), r)) : xX G d y r0 lim Φ pc ls (.int x :: .int i :: .ref a :: st) (f, r) := xr_castore (M := (f, r)) hd ha hin hx hn kk
theorem xq_aastore {a t nn v ci : Nat} {vs : List Value} {g : Nat → Option Nat} {i : Int32} (hd : decode y.2.1 pc = .ok (.aastore, 1)) (ha : f a = aR t nn g) (hv : f v = ob ci vs) (ht : (t = 2 ∧ ci = 1) ∨ (t = 3 ∧ ci = 2)) (hin : vp_in i nn) (hn : pc + 1 = n) (kk : xX G d y r0 lim Φ n ls st (xu f a (aR t nn (va_up g i.toNatClampNeg (some v))), r)) : xX G d y r0 lim Φ pc ls (.ref v :: .int i :: .ref a :: st) (f, r) := xr_aastore (M := (f, r)) hd ha hv ht hin hn kk
theorem xq_copy {a a0 n0 n1 idx : Nat} {g0 g : Nat → Int32} {sp dp nn : Int32} (hd : decode y.2.1 pc = .ok (.invokestatic idx, 3)) (hL : Cond.methodLink y.1.cls idx arraycopyName ∈ xWs) (ha0 : f a0 = aI 0 n0 g0) (ha1 : f a = aI 0 n1 g) (h1 : ¬ sp < 0) (h2 : ¬ dp < 0) (h3 : ¬ nn < 0) (h4 : sp.toNatClampNeg + nn.toNatClampNeg ≤ n0) (h5 : dp.toNatClampNeg + nn.toNatClampNeg ≤ n1) (hst : (st.map fun v => v.category).sum ≤ 8) (hn : pc + 3 = n)
    (kk : xX G (d + 1) y r0 lim Φ n ls st (xu f a (aI 0 n1 (va_cpy g0 g sp.toNatClampNeg dp.toNatClampNeg nn.toNatClampNeg)), r)) : xX G (d + 1) y r0 lim Φ pc ls (.int nn :: .int dp :: .ref a :: .int sp :: .ref a0 :: st) (f, r) := xr_copy (M := (f, r)) hd hL ha0 ha1 h1 h2 h3 h4 h5 hst hn kk
theorem xq_new {idx ci : Nat} {C : String} {N e k : Nat} {fs : List Value} (hd : decode y.2.1 pc = .ok (.new idx, 3)) (hL : Cond.classLink y.1.cls idx C ∈ xWs) (hci : ((vwCl[ci]?).map fun q => (q.1, q.2.2)) = some (C, N)) (hfs : ∀ j, j < N → defaultValue (xft ci j) = vp_V fs j) (hlim : e + 1 ≤ lim.1 ∧ k + N ≤ lim.2) (hn : pc + 3 = n) (kk : xX G d y r0 lim Φ n ls (.ref e :: st) (xu f e (ob ci fs), (e + 1, k + N))) : xX G d y r0 lim Φ pc ls st (f, (e, k)) := xr_new (M := (f, (e, k))) hd hL hci hfs hlim hn kk
theorem xq_newarray {z : Int32} {N t e k : Nat} {at0 : ArrayType} (hd : decode y.2.1 pc = .ok (.newarray at0, 2)) (ht : (at0 = .int ∧ t = 0) ∨ (at0 = .char ∧ t = 1)) (hz : ¬ z < 0) (hN : z.toNatClampNeg = N) (hbig : N ≤ 100000) (hlim : e + 1 ≤ lim.1 ∧ k + N ≤ lim.2) (hn : pc + 2 = n) (kk : xX G d y r0 lim Φ n ls (.ref e :: st) (xu f e (aI t N (fun _ => 0)), (e + 1, k + N))) : xX G d y r0 lim Φ pc ls (.int z :: st) (f, (e, k)) := xr_newarray (M := (f, (e, k))) hd ht hz hN hbig hlim hn kk
theorem xq_anewarray {z : Int32} {N t idx e k : Nat} {C : String} (hd : decode y.2.1 pc = .ok (.anewarray idx, 3)) (hL : Cond.classLink y.1.cls idx C ∈ xWs) (ht : (C = RX1 ∧ t = 2) ∨ (C = RX2 ∧ t = 3)) (hz : ¬ z < 0) (hN : z.toNatClampNeg = N) (hbig : N ≤ 100000) (hlim : e + 1 ≤ lim.1 ∧ k + N ≤ lim.2) (hn : pc + 3 = n) (kk : xX G d y r0 lim Φ n ls (.ref e :: st) (xu f e (aR t N (fun _ => none)), (e + 1, k + N))) : xX G d y r0 lim Φ pc ls (.int z :: st) (f, (e, k)) := xr_anewarray (M := (f, (e, k))) hd hL ht hz hN hbig hlim hn kk
theorem xr_beq {p : Prop} [Decidable p] {M : xM} {off : Int} {tgt : Nat} (hd : decode y.2.1 pc = .ok (.ifCond .eq off, 3)) (ht : (pc : Int) + off = (tgt : Int)) (hn : pc + 3 = n) (kt : ¬ p → xX G d y r0 lim Φ tgt ls st M) (kf : p → xX G d y r0 lim Φ n ls st M) : xX G d y r0 lim Φ pc ls (.int (b2i p) :: st) M := xr_if_eq hd ht hn (fun h => kt (b2i_0.mp h)) (fun h => kf (Decidable.not_not.mp (fun q => h (b2i_0.mpr q))))
theorem xr_bne {p : Prop} [Decidable p] {M : xM} {off : Int} {tgt : Nat} (hd : decode y.2.1 pc = .ok (.ifCond .ne off, 3)) (ht : (pc : Int) + off = (tgt : Int)) (hn : pc + 3 = n) (kt : p → xX G d y r0 lim Φ tgt ls st M) (kf : ¬ p → xX G d y r0 lim Φ n ls st M) : xX G d y r0 lim Φ pc ls (.int (b2i p) :: st) M := xr_if_ne hd ht hn (fun h => kt (Decidable.not_not.mp (fun q => h (b2i_0.mpr q)))) (fun h => kf (b2i_0.mp h))
theorem xMet_0 {av : List Value} {Q : Option Value → xM → Prop} (hy : plainName y.1.cls = true) (hav : av.all (fun v => v.category == 1) = true) (hlen : (lg_sl av).length ≤ y.2.2.1)
    (k : xX G d y r r (xΦ G r r Q) 0 (lv_args 0 av) [] (f, r)) : xMet G d y av (f, r) r Q := xMet_of hy ⟨Nat.le_refl _, Nat.le_refl _⟩ hav hlen k
end XQ
theorem qi {Q : Option Value → xM → Prop} {M : xM} {a b : Int32} (h : Q (some (.int a)) M) (e : a = b) : Q (some (.int b)) M := e ▸ h
theorem qm {Q : Option Value → xM → Prop} {v : Option Value} {M M' : xM} (h : Q v M) (e : M = M') : Q v M' := e ▸ h
theorem up2_a (s : xS) (i j : Nat) (v : Int32) (a b : Nat) : up2 s i j v a b = if a = i then (if b = j then v else s a b) else s a b := rfl
theorem ur_a (s : xS) (i : Nat) (g : Nat → Int32) (a b : Nat) : ur s i g a b = if a = i then g b else s a b := by
  unfold ur
  by_cases h : a = i
  · rw [if_pos h, if_pos h]
  · rw [if_neg h, if_neg h]
theorem up2_up2 (s : xS) (i j : Nat) (v w : Int32) : up2 (up2 s i j v) i j w = up2 s i j w := by
  funext a b
  simp only [up2_a]
  by_cases h1 : a = i
  · by_cases h2 : b = j
    · rw [if_pos h1, if_pos h2, if_pos h1, if_pos h2]
    · rw [if_pos h1, if_neg h2, if_pos h1, if_neg h2, if_pos h1, if_neg h2]
  · rw [if_neg h1, if_neg h1, if_neg h1]
theorem up2_id {s : xS} {i j : Nat} {v : Int32} (h : s i j = v) : up2 s i j v = s := by
  funext a b
  simp only [up2_a]
  by_cases h1 : a = i
  · by_cases h2 : b = j
    · rw [if_pos h1, if_pos h2, h1, h2, h]
    · rw [if_pos h1, if_neg h2]
  · rw [if_neg h1]
/-- g laid into h from off on, k places of it -/
def fo (g h : Nat → Int32) (off k : Nat) : Nat → Int32 := fun j => if off ≤ j ∧ j < off + k then g (j - off) else h j
theorem fo_a (g h : Nat → Int32) (off k j : Nat) : fo g h off k j = if off ≤ j ∧ j < off + k then g (j - off) else h j := rfl
theorem fo_0 (g h : Nat → Int32) (off : Nat) : fo g h off 0 = h := by
  funext j
  rw [fo_a, if_neg (by omega)]
theorem fo_in {g h : Nat → Int32} {off k j : Nat} (h1 : off ≤ j) (h2 : j < off + k) : fo g h off k j = g (j - off) := if_pos ⟨h1, h2⟩
theorem fo_out {g h : Nat → Int32} {off k j : Nat} (h1 : j < off ∨ off + k ≤ j) : fo g h off k j = h j := if_neg (by omega)
theorem fo_step {g h : Nat → Int32} {off k : Nat} {v : Int32} (hv : v = g k) : upd (fo g h off k) (off + k) v = fo g h off (k + 1) := by
  subst hv
  funext j
  unfold upd
  by_cases e : j = off + k
  · subst e
    rw [if_pos rfl, fo_in (by omega) (by omega), Nat.add_sub_cancel_left]
  · rw [if_neg e]
    by_cases h2 : off ≤ j ∧ j < off + k
    · rw [fo_in h2.1 h2.2, fo_in h2.1 (by omega)]
    · rw [fo_out (by omega), fo_out (by omega)]
theorem ur_fo {s : xS} {i : Nat} {g h : Nat → Int32} {off k : Nat} {v : Int32} (hv : v = g k) : up2 (ur s i (fo g h off k)) i (off + k) v = ur s i (fo g h off (k + 1)) := by
  rw [← fo_step hv]
  funext a b
  simp only [up2_a, ur_a, upd]
  by_cases h1 : a = i
  · by_cases h2 : b = off + k
    · rw [if_pos h1, if_pos h2, if_pos h1, if_pos h2]
    · rw [if_pos h1, if_neg h2, if_pos h1, if_pos h1, if_neg h2]
  · rw [if_neg h1, if_neg h1, if_neg h1]
theorem ur_fo0 {s : xS} {i : Nat} {g : Nat → Int32} {off : Nat} : ur s i (fo g (s i) off 0) = s := by
  rw [fo_0]
  funext a b
  rw [ur_a]
  by_cases h1 : a = i
  · rw [if_pos h1, h1]
  · rw [if_neg h1]
theorem nat_down {P : Nat → Prop} {N : Nat} (hN : P N) (hs : ∀ k, k < N → P (k + 1) → P k) : ∀ k, k ≤ N → P k := by
  intro k hk
  generalize e : N - k = n
  induction n generalizing k with
  | zero =>
    have : k = N := by omega
    subst this
    exact hN
  | succ n ih => exact hs k (by omega) (ih (k + 1) (by omega) (by omega))
/-- text: the first place from a on that is no space, and the sign there (0 behind the end) -/
def sk (t : Nat → Int32) (n : Nat) : Nat → Nat → Nat
  | 0, a => a
  | k + 1, a => if a < n ∧ t a = nI 32 then sk t n k (a + 1) else a
def skp (t : Nat → Int32) (n a : Nat) : Nat := sk t n (n - a) a
def ch (t : Nat → Int32) (n a : Nat) : Int32 := if a < n then t a else nI 0
theorem skp_eq (t : Nat → Int32) (n a : Nat) : skp t n a = if a < n ∧ t a = nI 32 then skp t n (a + 1) else a := by
  unfold skp
  by_cases h : a < n
  · have e : n - a = (n - (a + 1)) + 1 := by omega
    rw [e]
    rfl
  · have e : n - a = 0 := by omega
    rw [e, if_neg (fun q => h q.1)]
    rfl
theorem skp_ge (t : Nat → Int32) (n : Nat) : ∀ k a, n - a = k → a ≤ skp t n a ∧ (a ≤ n → skp t n a ≤ n) := by
  intro k
  induction k with
  | zero =>
    intro a e
    rw [skp_eq, if_neg (fun q => by have := q.1; omega)]
    exact ⟨Nat.le_refl _, fun h => h⟩
  | succ k ih =>
    intro a e
    rw [skp_eq]
    by_cases h : a < n ∧ t a = nI 32
    · rw [if_pos h]
      have := ih (a + 1) (by omega)
      exact ⟨by omega, fun _ => this.2 (by omega)⟩
    · rw [if_neg h]
      exact ⟨Nat.le_refl _, fun h => h⟩
theorem skp_no (t : Nat → Int32) (n : Nat) : ∀ k a, n - a = k → ¬ (skp t n a < n ∧ t (skp t n a) = nI 32) := by
  intro k
  induction k with
  | zero =>
    intro a e
    rw [skp_eq, if_neg (fun q => by have := q.1; omega)]
    exact fun q => by have := q.1; omega
  | succ k ih =>
    intro a e
    rw [skp_eq]
    by_cases h : a < n ∧ t a = nI 32
    · rw [if_pos h]
      exact ih (a + 1) (by omega)
    · rw [if_neg h]
      exact h
end
section
theorem dX0_init_0 : decode cX0_init 0 = .ok (.aload_n 0, 1) := by decide +kernel
theorem dX0_init_1 : decode cX0_init 1 = .ok (.invokespecial 3, 3) := by decide +kernel
theorem dX0_init_4 : decode cX0_init 4 = .ok (.aload_n 0, 1) := by decide +kernel
theorem dX0_init_5 : decode cX0_init 5 = .ok (.iconst 5, 1) := by decide +kernel
theorem dX0_init_6 : decode cX0_init 6 = .ok (.anewarray 9, 3) := by decide +kernel
theorem dX0_init_9 : decode cX0_init 9 = .ok (.putfield 11, 3) := by decide +kernel
theorem dX0_init_12 : decode cX0_init 12 = .ok (.aload_n 0, 1) := by decide +kernel
theorem dX0_init_13 : decode cX0_init 13 = .ok (.iconst 5, 1) := by decide +kernel
theorem dX0_init_14 : decode cX0_init 14 = .ok (.anewarray 9, 3) := by decide +kernel
theorem dX0_init_17 : decode cX0_init 17 = .ok (.putfield 17, 3) := by decide +kernel
theorem dX0_init_20 : decode cX0_init 20 = .ok (.iconst 0, 1) := by decide +kernel
theorem dX0_init_21 : decode cX0_init 21 = .ok (.istore_n 1, 1) := by decide +kernel
theorem dX0_init_22 : decode cX0_init 22 = .ok (.iload_n 1, 1) := by decide +kernel
theorem dX0_init_23 : decode cX0_init 23 = .ok (.iconst 5, 1) := by decide +kernel
theorem dX0_init_24 : decode cX0_init 24 = .ok (.if_icmp .ge 35, 3) := by decide +kernel
theorem dX0_init_27 : decode cX0_init 27 = .ok (.aload_n 0, 1) := by decide +kernel
theorem dX0_init_28 : decode cX0_init 28 = .ok (.getfield 11, 3) := by decide +kernel
theorem dX0_init_31 : decode cX0_init 31 = .ok (.iload_n 1, 1) := by decide +kernel
theorem dX0_init_32 : decode cX0_init 32 = .ok (.new 9, 3) := by decide +kernel
theorem dX0_init_35 : decode cX0_init 35 = .ok (.dup, 1) := by decide +kernel
theorem dX0_init_36 : decode cX0_init 36 = .ok (.invokespecial 20, 3) := by decide +kernel
theorem dX0_init_39 : decode cX0_init 39 = .ok (.aastore, 1) := by decide +kernel
theorem dX0_init_40 : decode cX0_init 40 = .ok (.aload_n 0, 1) := by decide +kernel
theorem dX0_init_41 : decode cX0_init 41 = .ok (.getfield 17, 3) := by decide +kernel
theorem dX0_init_44 : decode cX0_init 44 = .ok (.iload_n 1, 1) := by decide +kernel
theorem dX0_init_45 : decode cX0_init 45 = .ok (.new 9, 3) := by decide +kernel
theorem dX0_init_48 : decode cX0_init 48 = .ok (.dup, 1) := by decide +kernel
theorem dX0_init_49 : decode cX0_init 49 = .ok (.invokespecial 20, 3) := by decide +kernel
theorem dX0_init_52 : decode cX0_init 52 = .ok (.aastore, 1) := by decide +kernel
theorem dX0_init_53 : decode cX0_init 53 = .ok (.iinc 1 1, 3) := by decide +kernel
theorem dX0_init_56 : decode cX0_init 56 = .ok (.goto (-34), 3) := by decide +kernel
theorem dX0_init_59 : decode cX0_init 59 = .ok (.return_, 1) := by decide +kernel
theorem dX0_push_0 : decode cX0_push 0 = .ok (.aload_n 0, 1) := by decide +kernel
theorem dX0_push_1 : decode cX0_push 1 = .ok (.getfield 21, 3) := by decide +kernel
theorem dX0_push_4 : decode cX0_push 4 = .ok (.iconst 5, 1) := by decide +kernel
theorem dX0_push_5 : decode cX0_push 5 = .ok (.if_icmp .lt 7, 3) := by decide +kernel
theorem dX0_push_8 : decode cX0_push 8 = .ok (.aload_n 0, 1) := by decide +kernel
theorem dX0_push_9 : decode cX0_push 9 = .ok (.invokevirtual 25, 3) := by decide +kernel
theorem dX0_push_12 : decode cX0_push 12 = .ok (.aload_n 0, 1) := by decide +kernel
theorem dX0_push_13 : decode cX0_push 13 = .ok (.getfield 21, 3) := by decide +kernel
theorem dX0_push_16 : decode cX0_push 16 = .ok (.iconst 0, 1) := by decide +kernel
theorem dX0_push_17 : decode cX0_push 17 = .ok (.iconst 4, 1) := by decide +kernel
theorem dX0_push_18 : decode cX0_push 18 = .ok (.invokestatic 28, 3) := by decide +kernel
theorem dX0_push_21 : decode cX0_push 21 = .ok (.ifCond .eq 39, 3) := by decide +kernel
theorem dX0_push_24 : decode cX0_push 24 = .ok (.aload_n 0, 1) := by decide +kernel
theorem dX0_push_25 : decode cX0_push 25 = .ok (.getfield 11, 3) := by decide +kernel
theorem dX0_push_28 : decode cX0_push 28 = .ok (.aload_n 0, 1) := by decide +kernel
theorem dX0_push_29 : decode cX0_push 29 = .ok (.getfield 21, 3) := by decide +kernel
theorem dX0_push_32 : decode cX0_push 32 = .ok (.aaload, 1) := by decide +kernel
theorem dX0_push_33 : decode cX0_push 33 = .ok (.aload_n 1, 1) := by decide +kernel
theorem dX0_push_34 : decode cX0_push 34 = .ok (.invokevirtual 32, 3) := by decide +kernel
theorem dX0_push_37 : decode cX0_push 37 = .ok (.aload_n 0, 1) := by decide +kernel
theorem dX0_push_38 : decode cX0_push 38 = .ok (.getfield 17, 3) := by decide +kernel
theorem dX0_push_41 : decode cX0_push 41 = .ok (.aload_n 0, 1) := by decide +kernel
theorem dX0_push_42 : decode cX0_push 42 = .ok (.getfield 21, 3) := by decide +kernel
theorem dX0_push_45 : decode cX0_push 45 = .ok (.aaload, 1) := by decide +kernel
theorem dX0_push_46 : decode cX0_push 46 = .ok (.aload_n 2, 1) := by decide +kernel
theorem dX0_push_47 : decode cX0_push 47 = .ok (.invokevirtual 32, 3) := by decide +kernel
theorem dX0_push_50 : decode cX0_push 50 = .ok (.aload_n 0, 1) := by decide +kernel
theorem dX0_push_51 : decode cX0_push 51 = .ok (.dup, 1) := by decide +kernel
theorem dX0_push_52 : decode cX0_push 52 = .ok (.getfield 21, 3) := by decide +kernel
theorem dX0_push_55 : decode cX0_push 55 = .ok (.iconst 1, 1) := by decide +kernel
theorem dX0_push_56 : decode cX0_push 56 = .ok (.iadd, 1) := by decide +kernel
theorem dX0_push_57 : decode cX0_push 57 = .ok (.putfield 21, 3) := by decide +kernel
theorem dX0_push_60 : decode cX0_push 60 = .ok (.return_, 1) := by decide +kernel
theorem dX0_pop_0 : decode cX0_pop 0 = .ok (.aload_n 0, 1) := by decide +kernel
theorem dX0_pop_1 : decode cX0_pop 1 = .ok (.getfield 21, 3) := by decide +kernel
theorem dX0_pop_4 : decode cX0_pop 4 = .ok (.iconst 1, 1) := by decide +kernel
theorem dX0_pop_5 : decode cX0_pop 5 = .ok (.isub, 1) := by decide +kernel
theorem dX0_pop_6 : decode cX0_pop 6 = .ok (.istore_n 3, 1) := by decide +kernel
theorem dX0_pop_7 : decode cX0_pop 7 = .ok (.iload_n 3, 1) := by decide +kernel
theorem dX0_pop_8 : decode cX0_pop 8 = .ok (.iconst 0, 1) := by decide +kernel
theorem dX0_pop_9 : decode cX0_pop 9 = .ok (.iconst 4, 1) := by decide +kernel
theorem dX0_pop_10 : decode cX0_pop 10 = .ok (.invokestatic 28, 3) := by decide +kernel
theorem dX0_pop_13 : decode cX0_pop 13 = .ok (.ifCond .eq 28, 3) := by decide +kernel
theorem dX0_pop_16 : decode cX0_pop 16 = .ok (.aload_n 1, 1) := by decide +kernel
theorem dX0_pop_17 : decode cX0_pop 17 = .ok (.aload_n 0, 1) := by decide +kernel
theorem dX0_pop_18 : decode cX0_pop 18 = .ok (.getfield 11, 3) := by decide +kernel
theorem dX0_pop_21 : decode cX0_pop 21 = .ok (.iload_n 3, 1) := by decide +kernel
theorem dX0_pop_22 : decode cX0_pop 22 = .ok (.aaload, 1) := by decide +kernel
theorem dX0_pop_23 : decode cX0_pop 23 = .ok (.invokevirtual 32, 3) := by decide +kernel
theorem dX0_pop_26 : decode cX0_pop 26 = .ok (.aload_n 2, 1) := by decide +kernel
theorem dX0_pop_27 : decode cX0_pop 27 = .ok (.aload_n 0, 1) := by decide +kernel
theorem dX0_pop_28 : decode cX0_pop 28 = .ok (.getfield 17, 3) := by decide +kernel
theorem dX0_pop_31 : decode cX0_pop 31 = .ok (.iload_n 3, 1) := by decide +kernel
theorem dX0_pop_32 : decode cX0_pop 32 = .ok (.aaload, 1) := by decide +kernel
theorem dX0_pop_33 : decode cX0_pop 33 = .ok (.invokevirtual 32, 3) := by decide +kernel
theorem dX0_pop_36 : decode cX0_pop 36 = .ok (.aload_n 0, 1) := by decide +kernel
theorem dX0_pop_37 : decode cX0_pop 37 = .ok (.iload_n 3, 1) := by decide +kernel
theorem dX0_pop_38 : decode cX0_pop 38 = .ok (.putfield 21, 3) := by decide +kernel
theorem dX0_pop_41 : decode cX0_pop 41 = .ok (.return_, 1) := by decide +kernel
theorem dX0_dropOldest_0 : decode cX0_dropOldest 0 = .ok (.aload_n 0, 1) := by decide +kernel
theorem dX0_dropOldest_1 : decode cX0_dropOldest 1 = .ok (.getfield 11, 3) := by decide +kernel
theorem dX0_dropOldest_4 : decode cX0_dropOldest 4 = .ok (.iconst 0, 1) := by decide +kernel
theorem dX0_dropOldest_5 : decode cX0_dropOldest 5 = .ok (.aaload, 1) := by decide +kernel
theorem dX0_dropOldest_6 : decode cX0_dropOldest 6 = .ok (.astore_n 1, 1) := by decide +kernel
theorem dX0_dropOldest_7 : decode cX0_dropOldest 7 = .ok (.aload_n 0, 1) := by decide +kernel
theorem dX0_dropOldest_8 : decode cX0_dropOldest 8 = .ok (.getfield 17, 3) := by decide +kernel
theorem dX0_dropOldest_11 : decode cX0_dropOldest 11 = .ok (.iconst 0, 1) := by decide +kernel
theorem dX0_dropOldest_12 : decode cX0_dropOldest 12 = .ok (.aaload, 1) := by decide +kernel
theorem dX0_dropOldest_13 : decode cX0_dropOldest 13 = .ok (.astore_n 2, 1) := by decide +kernel
theorem dX0_dropOldest_14 : decode cX0_dropOldest 14 = .ok (.iconst 1, 1) := by decide +kernel
theorem dX0_dropOldest_15 : decode cX0_dropOldest 15 = .ok (.istore_n 3, 1) := by decide +kernel
theorem dX0_dropOldest_16 : decode cX0_dropOldest 16 = .ok (.iload_n 3, 1) := by decide +kernel
theorem dX0_dropOldest_17 : decode cX0_dropOldest 17 = .ok (.iconst 5, 1) := by decide +kernel
theorem dX0_dropOldest_18 : decode cX0_dropOldest 18 = .ok (.if_icmp .ge 37, 3) := by decide +kernel
theorem dX0_dropOldest_21 : decode cX0_dropOldest 21 = .ok (.aload_n 0, 1) := by decide +kernel
theorem dX0_dropOldest_22 : decode cX0_dropOldest 22 = .ok (.getfield 11, 3) := by decide +kernel
theorem dX0_dropOldest_25 : decode cX0_dropOldest 25 = .ok (.iload_n 3, 1) := by decide +kernel
theorem dX0_dropOldest_26 : decode cX0_dropOldest 26 = .ok (.iconst 1, 1) := by decide +kernel
theorem dX0_dropOldest_27 : decode cX0_dropOldest 27 = .ok (.isub, 1) := by decide +kernel
theorem dX0_dropOldest_28 : decode cX0_dropOldest 28 = .ok (.aload_n 0, 1) := by decide +kernel
theorem dX0_dropOldest_29 : decode cX0_dropOldest 29 = .ok (.getfield 11, 3) := by decide +kernel
theorem dX0_dropOldest_32 : decode cX0_dropOldest 32 = .ok (.iload_n 3, 1) := by decide +kernel
theorem dX0_dropOldest_33 : decode cX0_dropOldest 33 = .ok (.aaload, 1) := by decide +kernel
theorem dX0_dropOldest_34 : decode cX0_dropOldest 34 = .ok (.aastore, 1) := by decide +kernel
theorem dX0_dropOldest_35 : decode cX0_dropOldest 35 = .ok (.aload_n 0, 1) := by decide +kernel
theorem dX0_dropOldest_36 : decode cX0_dropOldest 36 = .ok (.getfield 17, 3) := by decide +kernel
theorem dX0_dropOldest_39 : decode cX0_dropOldest 39 = .ok (.iload_n 3, 1) := by decide +kernel
theorem dX0_dropOldest_40 : decode cX0_dropOldest 40 = .ok (.iconst 1, 1) := by decide +kernel
theorem dX0_dropOldest_41 : decode cX0_dropOldest 41 = .ok (.isub, 1) := by decide +kernel
theorem dX0_dropOldest_42 : decode cX0_dropOldest 42 = .ok (.aload_n 0, 1) := by decide +kernel
theorem dX0_dropOldest_43 : decode cX0_dropOldest 43 = .ok (.getfield 17, 3) := by decide +kernel
theorem dX0_dropOldest_46 : decode cX0_dropOldest 46 = .ok (.iload_n 3, 1) := by decide +kernel
theorem dX0_dropOldest_47 : decode cX0_dropOldest 47 = .ok (.aaload, 1) := by decide +kernel
theorem dX0_dropOldest_48 : decode cX0_dropOldest 48 = .ok (.aastore, 1) := by decide +kernel
theorem dX0_dropOldest_49 : decode cX0_dropOldest 49 = .ok (.iinc 3 1, 3) := by decide +kernel
theorem dX0_dropOldest_52 : decode cX0_dropOldest 52 = .ok (.goto (-36), 3) := by decide +kernel
theorem dX0_dropOldest_55 : decode cX0_dropOldest 55 = .ok (.aload_n 0, 1) := by decide +kernel
theorem dX0_dropOldest_56 : decode cX0_dropOldest 56 = .ok (.getfield 11, 3) := by decide +kernel
theorem dX0_dropOldest_59 : decode cX0_dropOldest 59 = .ok (.iconst 4, 1) := by decide +kernel
theorem dX0_dropOldest_60 : decode cX0_dropOldest 60 = .ok (.aload_n 1, 1) := by decide +kernel
theorem dX0_dropOldest_61 : decode cX0_dropOldest 61 = .ok (.aastore, 1) := by decide +kernel
theorem dX0_dropOldest_62 : decode cX0_dropOldest 62 = .ok (.aload_n 0, 1) := by decide +kernel
theorem dX0_dropOldest_63 : decode cX0_dropOldest 63 = .ok (.getfield 17, 3) := by decide +kernel
theorem dX0_dropOldest_66 : decode cX0_dropOldest 66 = .ok (.iconst 4, 1) := by decide +kernel
theorem dX0_dropOldest_67 : decode cX0_dropOldest 67 = .ok (.aload_n 2, 1) := by decide +kernel
theorem dX0_dropOldest_68 : decode cX0_dropOldest 68 = .ok (.aastore, 1) := by decide +kernel
theorem dX0_dropOldest_69 : decode cX0_dropOldest 69 = .ok (.aload_n 0, 1) := by decide +kernel
theorem dX0_dropOldest_70 : decode cX0_dropOldest 70 = .ok (.iconst 4, 1) := by decide +kernel
theorem dX0_dropOldest_71 : decode cX0_dropOldest 71 = .ok (.putfield 21, 3) := by decide +kernel
theorem dX0_dropOldest_74 : decode cX0_dropOldest 74 = .ok (.return_, 1) := by decide +kernel
theorem dX1_init_0 : decode cX1_init 0 = .ok (.aload_n 0, 1) := by decide +kernel
theorem dX1_init_1 : decode cX1_init 1 = .ok (.invokespecial 3, 3) := by decide +kernel
theorem dX1_init_4 : decode cX1_init 4 = .ok (.aload_n 0, 1) := by decide +kernel
theorem dX1_init_5 : decode cX1_init 5 = .ok (.bipush 60, 2) := by decide +kernel
theorem dX1_init_7 : decode cX1_init 7 = .ok (.newarray .int, 2) := by decide +kernel
theorem dX1_init_9 : decode cX1_init 9 = .ok (.putfield 9, 3) := by decide +kernel
theorem dX1_init_12 : decode cX1_init 12 = .ok (.aload_n 0, 1) := by decide +kernel
theorem dX1_init_13 : decode cX1_init 13 = .ok (.bipush 60, 2) := by decide +kernel
theorem dX1_init_15 : decode cX1_init 15 = .ok (.newarray .int, 2) := by decide +kernel
theorem dX1_init_17 : decode cX1_init 17 = .ok (.putfield 15, 3) := by decide +kernel
theorem dX1_init_20 : decode cX1_init 20 = .ok (.aload_n 0, 1) := by decide +kernel
theorem dX1_init_21 : decode cX1_init 21 = .ok (.bipush 60, 2) := by decide +kernel
theorem dX1_init_23 : decode cX1_init 23 = .ok (.newarray .int, 2) := by decide +kernel
theorem dX1_init_25 : decode cX1_init 25 = .ok (.putfield 18, 3) := by decide +kernel
theorem dX1_init_28 : decode cX1_init 28 = .ok (.aload_n 0, 1) := by decide +kernel
theorem dX1_init_29 : decode cX1_init 29 = .ok (.bipush 60, 2) := by decide +kernel
theorem dX1_init_31 : decode cX1_init 31 = .ok (.newarray .int, 2) := by decide +kernel
theorem dX1_init_33 : decode cX1_init 33 = .ok (.putfield 21, 3) := by decide +kernel
theorem dX1_init_36 : decode cX1_init 36 = .ok (.aload_n 0, 1) := by decide +kernel
theorem dX1_init_37 : decode cX1_init 37 = .ok (.bipush 60, 2) := by decide +kernel
theorem dX1_init_39 : decode cX1_init 39 = .ok (.newarray .int, 2) := by decide +kernel
theorem dX1_init_41 : decode cX1_init 41 = .ok (.putfield 24, 3) := by decide +kernel
theorem dX1_init_44 : decode cX1_init 44 = .ok (.aload_n 0, 1) := by decide +kernel
theorem dX1_init_45 : decode cX1_init 45 = .ok (.bipush 60, 2) := by decide +kernel
theorem dX1_init_47 : decode cX1_init 47 = .ok (.newarray .int, 2) := by decide +kernel
theorem dX1_init_49 : decode cX1_init 49 = .ok (.putfield 27, 3) := by decide +kernel
theorem dX1_init_52 : decode cX1_init 52 = .ok (.aload_n 0, 1) := by decide +kernel
theorem dX1_init_53 : decode cX1_init 53 = .ok (.bipush 60, 2) := by decide +kernel
theorem dX1_init_55 : decode cX1_init 55 = .ok (.newarray .int, 2) := by decide +kernel
theorem dX1_init_57 : decode cX1_init 57 = .ok (.putfield 30, 3) := by decide +kernel
theorem dX1_init_60 : decode cX1_init 60 = .ok (.aload_n 0, 1) := by decide +kernel
theorem dX1_init_61 : decode cX1_init 61 = .ok (.bipush 60, 2) := by decide +kernel
theorem dX1_init_63 : decode cX1_init 63 = .ok (.newarray .int, 2) := by decide +kernel
theorem dX1_init_65 : decode cX1_init 65 = .ok (.putfield 33, 3) := by decide +kernel
theorem dX1_init_68 : decode cX1_init 68 = .ok (.aload_n 0, 1) := by decide +kernel
theorem dX1_init_69 : decode cX1_init 69 = .ok (.bipush 60, 2) := by decide +kernel
theorem dX1_init_71 : decode cX1_init 71 = .ok (.newarray .int, 2) := by decide +kernel
theorem dX1_init_73 : decode cX1_init 73 = .ok (.putfield 36, 3) := by decide +kernel
theorem dX1_init_76 : decode cX1_init 76 = .ok (.return_, 1) := by decide +kernel
theorem dX1_isFull_0 : decode cX1_isFull 0 = .ok (.aload_n 0, 1) := by decide +kernel
theorem dX1_isFull_1 : decode cX1_isFull 1 = .ok (.getfield 39, 3) := by decide +kernel
theorem dX1_isFull_4 : decode cX1_isFull 4 = .ok (.bipush 60, 2) := by decide +kernel
theorem dX1_isFull_6 : decode cX1_isFull 6 = .ok (.if_icmp .lt 7, 3) := by decide +kernel
theorem dX1_isFull_9 : decode cX1_isFull 9 = .ok (.iconst 1, 1) := by decide +kernel
theorem dX1_isFull_10 : decode cX1_isFull 10 = .ok (.goto 4, 3) := by decide +kernel
theorem dX1_isFull_13 : decode cX1_isFull 13 = .ok (.iconst 0, 1) := by decide +kernel
theorem dX1_isFull_14 : decode cX1_isFull 14 = .ok (.ireturn, 1) := by decide +kernel
theorem dX1_holds_0 : decode cX1_holds 0 = .ok (.iload_n 1, 1) := by decide +kernel
theorem dX1_holds_1 : decode cX1_holds 1 = .ok (.iconst 0, 1) := by decide +kernel
theorem dX1_holds_2 : decode cX1_holds 2 = .ok (.aload_n 0, 1) := by decide +kernel
theorem dX1_holds_3 : decode cX1_holds 3 = .ok (.getfield 39, 3) := by decide +kernel
theorem dX1_holds_6 : decode cX1_holds 6 = .ok (.bipush 60, 2) := by decide +kernel
theorem dX1_holds_8 : decode cX1_holds 8 = .ok (.invokestatic 43, 3) := by decide +kernel
theorem dX1_holds_11 : decode cX1_holds 11 = .ok (.iconst 1, 1) := by decide +kernel
theorem dX1_holds_12 : decode cX1_holds 12 = .ok (.isub, 1) := by decide +kernel
theorem dX1_holds_13 : decode cX1_holds 13 = .ok (.invokestatic 49, 3) := by decide +kernel
theorem dX1_holds_16 : decode cX1_holds 16 = .ok (.ireturn, 1) := by decide +kernel
theorem dX1_add_0 : decode cX1_add 0 = .ok (.aload_n 0, 1) := by decide +kernel
theorem dX1_add_1 : decode cX1_add 1 = .ok (.getfield 39, 3) := by decide +kernel
theorem dX1_add_4 : decode cX1_add 4 = .ok (.iconst 0, 1) := by decide +kernel
theorem dX1_add_5 : decode cX1_add 5 = .ok (.bipush 59, 2) := by decide +kernel
theorem dX1_add_7 : decode cX1_add 7 = .ok (.invokestatic 49, 3) := by decide +kernel
theorem dX1_add_10 : decode cX1_add 10 = .ok (.ifCond .ne 5, 3) := by decide +kernel
theorem dX1_add_13 : decode cX1_add 13 = .ok (.iconst 0, 1) := by decide +kernel
theorem dX1_add_14 : decode cX1_add 14 = .ok (.ireturn, 1) := by decide +kernel
theorem dX1_add_15 : decode cX1_add 15 = .ok (.aload_n 0, 1) := by decide +kernel
theorem dX1_add_16 : decode cX1_add 16 = .ok (.getfield 9, 3) := by decide +kernel
theorem dX1_add_19 : decode cX1_add 19 = .ok (.aload_n 0, 1) := by decide +kernel
theorem dX1_add_20 : decode cX1_add 20 = .ok (.getfield 39, 3) := by decide +kernel
theorem dX1_add_23 : decode cX1_add 23 = .ok (.iload_n 1, 1) := by decide +kernel
theorem dX1_add_24 : decode cX1_add 24 = .ok (.iastore, 1) := by decide +kernel
theorem dX1_add_25 : decode cX1_add 25 = .ok (.aload_n 0, 1) := by decide +kernel
theorem dX1_add_26 : decode cX1_add 26 = .ok (.getfield 15, 3) := by decide +kernel
theorem dX1_add_29 : decode cX1_add 29 = .ok (.aload_n 0, 1) := by decide +kernel
theorem dX1_add_30 : decode cX1_add 30 = .ok (.getfield 39, 3) := by decide +kernel
theorem dX1_add_33 : decode cX1_add 33 = .ok (.iload_n 2, 1) := by decide +kernel
theorem dX1_add_34 : decode cX1_add 34 = .ok (.iastore, 1) := by decide +kernel
theorem dX1_add_35 : decode cX1_add 35 = .ok (.aload_n 0, 1) := by decide +kernel
theorem dX1_add_36 : decode cX1_add 36 = .ok (.getfield 18, 3) := by decide +kernel
theorem dX1_add_39 : decode cX1_add 39 = .ok (.aload_n 0, 1) := by decide +kernel
theorem dX1_add_40 : decode cX1_add 40 = .ok (.getfield 39, 3) := by decide +kernel
theorem dX1_add_43 : decode cX1_add 43 = .ok (.iconst 0, 1) := by decide +kernel
theorem dX1_add_44 : decode cX1_add 44 = .ok (.iastore, 1) := by decide +kernel
theorem dX1_add_45 : decode cX1_add 45 = .ok (.aload_n 0, 1) := by decide +kernel
theorem dX1_add_46 : decode cX1_add 46 = .ok (.getfield 21, 3) := by decide +kernel
theorem dX1_add_49 : decode cX1_add 49 = .ok (.aload_n 0, 1) := by decide +kernel
theorem dX1_add_50 : decode cX1_add 50 = .ok (.getfield 39, 3) := by decide +kernel
theorem dX1_add_53 : decode cX1_add 53 = .ok (.iconst 0, 1) := by decide +kernel
theorem dX1_add_54 : decode cX1_add 54 = .ok (.iastore, 1) := by decide +kernel
theorem dX1_add_55 : decode cX1_add 55 = .ok (.aload_n 0, 1) := by decide +kernel
theorem dX1_add_56 : decode cX1_add 56 = .ok (.getfield 24, 3) := by decide +kernel
theorem dX1_add_59 : decode cX1_add 59 = .ok (.aload_n 0, 1) := by decide +kernel
theorem dX1_add_60 : decode cX1_add 60 = .ok (.getfield 39, 3) := by decide +kernel
theorem dX1_add_63 : decode cX1_add 63 = .ok (.iconst 0, 1) := by decide +kernel
theorem dX1_add_64 : decode cX1_add 64 = .ok (.iastore, 1) := by decide +kernel
theorem dX1_add_65 : decode cX1_add 65 = .ok (.aload_n 0, 1) := by decide +kernel
theorem dX1_add_66 : decode cX1_add 66 = .ok (.getfield 27, 3) := by decide +kernel
theorem dX1_add_69 : decode cX1_add 69 = .ok (.aload_n 0, 1) := by decide +kernel
theorem dX1_add_70 : decode cX1_add 70 = .ok (.getfield 39, 3) := by decide +kernel
theorem dX1_add_73 : decode cX1_add 73 = .ok (.iload_n 3, 1) := by decide +kernel
theorem dX1_add_74 : decode cX1_add 74 = .ok (.iastore, 1) := by decide +kernel
theorem dX1_add_75 : decode cX1_add 75 = .ok (.aload_n 0, 1) := by decide +kernel
theorem dX1_add_76 : decode cX1_add 76 = .ok (.getfield 30, 3) := by decide +kernel
theorem dX1_add_79 : decode cX1_add 79 = .ok (.aload_n 0, 1) := by decide +kernel
theorem dX1_add_80 : decode cX1_add 80 = .ok (.getfield 39, 3) := by decide +kernel
theorem dX1_add_83 : decode cX1_add 83 = .ok (.aload_n 0, 1) := by decide +kernel
theorem dX1_add_84 : decode cX1_add 84 = .ok (.getfield 39, 3) := by decide +kernel
theorem dX1_add_87 : decode cX1_add 87 = .ok (.iconst 1, 1) := by decide +kernel
theorem dX1_add_88 : decode cX1_add 88 = .ok (.iadd, 1) := by decide +kernel
theorem dX1_add_89 : decode cX1_add 89 = .ok (.iastore, 1) := by decide +kernel
theorem dX1_add_90 : decode cX1_add 90 = .ok (.aload_n 0, 1) := by decide +kernel
theorem dX1_add_91 : decode cX1_add 91 = .ok (.getfield 33, 3) := by decide +kernel
theorem dX1_add_94 : decode cX1_add 94 = .ok (.aload_n 0, 1) := by decide +kernel
theorem dX1_add_95 : decode cX1_add 95 = .ok (.getfield 39, 3) := by decide +kernel
theorem dX1_add_98 : decode cX1_add 98 = .ok (.aload_n 0, 1) := by decide +kernel
theorem dX1_add_99 : decode cX1_add 99 = .ok (.getfield 39, 3) := by decide +kernel
theorem dX1_add_102 : decode cX1_add 102 = .ok (.iconst 1, 1) := by decide +kernel
theorem dX1_add_103 : decode cX1_add 103 = .ok (.iadd, 1) := by decide +kernel
theorem dX1_add_104 : decode cX1_add 104 = .ok (.iastore, 1) := by decide +kernel
theorem dX1_add_105 : decode cX1_add 105 = .ok (.aload_n 0, 1) := by decide +kernel
theorem dX1_add_106 : decode cX1_add 106 = .ok (.dup, 1) := by decide +kernel
theorem dX1_add_107 : decode cX1_add 107 = .ok (.getfield 39, 3) := by decide +kernel
theorem dX1_add_110 : decode cX1_add 110 = .ok (.iconst 1, 1) := by decide +kernel
theorem dX1_add_111 : decode cX1_add 111 = .ok (.iadd, 1) := by decide +kernel
theorem dX1_add_112 : decode cX1_add 112 = .ok (.putfield 39, 3) := by decide +kernel
theorem dX1_add_115 : decode cX1_add 115 = .ok (.iconst 1, 1) := by decide +kernel
theorem dX1_add_116 : decode cX1_add 116 = .ok (.ireturn, 1) := by decide +kernel
theorem dX1_setTerms_0 : decode cX1_setTerms 0 = .ok (.aload_n 0, 1) := by decide +kernel
theorem dX1_setTerms_1 : decode cX1_setTerms 1 = .ok (.getfield 39, 3) := by decide +kernel
theorem dX1_setTerms_4 : decode cX1_setTerms 4 = .ok (.iconst 1, 1) := by decide +kernel
theorem dX1_setTerms_5 : decode cX1_setTerms 5 = .ok (.isub, 1) := by decide +kernel
theorem dX1_setTerms_6 : decode cX1_setTerms 6 = .ok (.istore 4, 2) := by decide +kernel
theorem dX1_setTerms_8 : decode cX1_setTerms 8 = .ok (.aload_n 0, 1) := by decide +kernel
theorem dX1_setTerms_9 : decode cX1_setTerms 9 = .ok (.iload 4, 2) := by decide +kernel
theorem dX1_setTerms_11 : decode cX1_setTerms 11 = .ok (.invokevirtual 53, 3) := by decide +kernel
theorem dX1_setTerms_14 : decode cX1_setTerms 14 = .ok (.ifCond .eq 27, 3) := by decide +kernel
theorem dX1_setTerms_17 : decode cX1_setTerms 17 = .ok (.aload_n 0, 1) := by decide +kernel
theorem dX1_setTerms_18 : decode cX1_setTerms 18 = .ok (.getfield 18, 3) := by decide +kernel
theorem dX1_setTerms_21 : decode cX1_setTerms 21 = .ok (.iload 4, 2) := by decide +kernel
theorem dX1_setTerms_23 : decode cX1_setTerms 23 = .ok (.iload_n 1, 1) := by decide +kernel
theorem dX1_setTerms_24 : decode cX1_setTerms 24 = .ok (.iastore, 1) := by decide +kernel
theorem dX1_setTerms_25 : decode cX1_setTerms 25 = .ok (.aload_n 0, 1) := by decide +kernel
theorem dX1_setTerms_26 : decode cX1_setTerms 26 = .ok (.getfield 21, 3) := by decide +kernel
theorem dX1_setTerms_29 : decode cX1_setTerms 29 = .ok (.iload 4, 2) := by decide +kernel
theorem dX1_setTerms_31 : decode cX1_setTerms 31 = .ok (.iload_n 2, 1) := by decide +kernel
theorem dX1_setTerms_32 : decode cX1_setTerms 32 = .ok (.iastore, 1) := by decide +kernel
theorem dX1_setTerms_33 : decode cX1_setTerms 33 = .ok (.aload_n 0, 1) := by decide +kernel
theorem dX1_setTerms_34 : decode cX1_setTerms 34 = .ok (.getfield 24, 3) := by decide +kernel
theorem dX1_setTerms_37 : decode cX1_setTerms 37 = .ok (.iload 4, 2) := by decide +kernel
theorem dX1_setTerms_39 : decode cX1_setTerms 39 = .ok (.iload_n 3, 1) := by decide +kernel
theorem dX1_setTerms_40 : decode cX1_setTerms 40 = .ok (.iastore, 1) := by decide +kernel
theorem dX1_setTerms_41 : decode cX1_setTerms 41 = .ok (.return_, 1) := by decide +kernel
theorem dX1_endFirstPart_0 : decode cX1_endFirstPart 0 = .ok (.aload_n 0, 1) := by decide +kernel
theorem dX1_endFirstPart_1 : decode cX1_endFirstPart 1 = .ok (.iload_n 1, 1) := by decide +kernel
theorem dX1_endFirstPart_2 : decode cX1_endFirstPart 2 = .ok (.invokevirtual 53, 3) := by decide +kernel
theorem dX1_endFirstPart_5 : decode cX1_endFirstPart 5 = .ok (.ifCond .eq 13, 3) := by decide +kernel
theorem dX1_endFirstPart_8 : decode cX1_endFirstPart 8 = .ok (.aload_n 0, 1) := by decide +kernel
theorem dX1_endFirstPart_9 : decode cX1_endFirstPart 9 = .ok (.getfield 30, 3) := by decide +kernel
theorem dX1_endFirstPart_12 : decode cX1_endFirstPart 12 = .ok (.iload_n 1, 1) := by decide +kernel
theorem dX1_endFirstPart_13 : decode cX1_endFirstPart 13 = .ok (.aload_n 0, 1) := by decide +kernel
theorem dX1_endFirstPart_14 : decode cX1_endFirstPart 14 = .ok (.getfield 39, 3) := by decide +kernel
theorem dX1_endFirstPart_17 : decode cX1_endFirstPart 17 = .ok (.iastore, 1) := by decide +kernel
theorem dX1_endFirstPart_18 : decode cX1_endFirstPart 18 = .ok (.return_, 1) := by decide +kernel
theorem dX1_close_0 : decode cX1_close 0 = .ok (.aload_n 0, 1) := by decide +kernel
theorem dX1_close_1 : decode cX1_close 1 = .ok (.iload_n 1, 1) := by decide +kernel
theorem dX1_close_2 : decode cX1_close 2 = .ok (.invokevirtual 53, 3) := by decide +kernel
theorem dX1_close_5 : decode cX1_close 5 = .ok (.ifCond .eq 33, 3) := by decide +kernel
theorem dX1_close_8 : decode cX1_close 8 = .ok (.aload_n 0, 1) := by decide +kernel
theorem dX1_close_9 : decode cX1_close 9 = .ok (.getfield 33, 3) := by decide +kernel
theorem dX1_close_12 : decode cX1_close 12 = .ok (.iload_n 1, 1) := by decide +kernel
theorem dX1_close_13 : decode cX1_close 13 = .ok (.aload_n 0, 1) := by decide +kernel
theorem dX1_close_14 : decode cX1_close 14 = .ok (.getfield 39, 3) := by decide +kernel
theorem dX1_close_17 : decode cX1_close 17 = .ok (.iastore, 1) := by decide +kernel
theorem dX1_close_18 : decode cX1_close 18 = .ok (.aload_n 0, 1) := by decide +kernel
theorem dX1_close_19 : decode cX1_close 19 = .ok (.getfield 9, 3) := by decide +kernel
theorem dX1_close_22 : decode cX1_close 22 = .ok (.iload_n 1, 1) := by decide +kernel
theorem dX1_close_23 : decode cX1_close 23 = .ok (.iaload, 1) := by decide +kernel
theorem dX1_close_24 : decode cX1_close 24 = .ok (.iconst 4, 1) := by decide +kernel
theorem dX1_close_25 : decode cX1_close 25 = .ok (.if_icmp .ne 13, 3) := by decide +kernel
theorem dX1_close_28 : decode cX1_close 28 = .ok (.aload_n 0, 1) := by decide +kernel
theorem dX1_close_29 : decode cX1_close 29 = .ok (.getfield 30, 3) := by decide +kernel
theorem dX1_close_32 : decode cX1_close 32 = .ok (.iload_n 1, 1) := by decide +kernel
theorem dX1_close_33 : decode cX1_close 33 = .ok (.aload_n 0, 1) := by decide +kernel
theorem dX1_close_34 : decode cX1_close 34 = .ok (.getfield 39, 3) := by decide +kernel
theorem dX1_close_37 : decode cX1_close 37 = .ok (.iastore, 1) := by decide +kernel
theorem dX1_close_38 : decode cX1_close 38 = .ok (.return_, 1) := by decide +kernel
theorem dX1_takeFrom_0 : decode cX1_takeFrom 0 = .ok (.aload_n 0, 1) := by decide +kernel
theorem dX1_takeFrom_1 : decode cX1_takeFrom 1 = .ok (.aload_n 1, 1) := by decide +kernel
theorem dX1_takeFrom_2 : decode cX1_takeFrom 2 = .ok (.getfield 39, 3) := by decide +kernel
theorem dX1_takeFrom_5 : decode cX1_takeFrom 5 = .ok (.putfield 39, 3) := by decide +kernel
theorem dX1_takeFrom_8 : decode cX1_takeFrom 8 = .ok (.aload_n 1, 1) := by decide +kernel
theorem dX1_takeFrom_9 : decode cX1_takeFrom 9 = .ok (.getfield 9, 3) := by decide +kernel
theorem dX1_takeFrom_12 : decode cX1_takeFrom 12 = .ok (.iconst 0, 1) := by decide +kernel
theorem dX1_takeFrom_13 : decode cX1_takeFrom 13 = .ok (.aload_n 0, 1) := by decide +kernel
theorem dX1_takeFrom_14 : decode cX1_takeFrom 14 = .ok (.getfield 9, 3) := by decide +kernel
theorem dX1_takeFrom_17 : decode cX1_takeFrom 17 = .ok (.iconst 0, 1) := by decide +kernel
theorem dX1_takeFrom_18 : decode cX1_takeFrom 18 = .ok (.bipush 60, 2) := by decide +kernel
theorem dX1_takeFrom_20 : decode cX1_takeFrom 20 = .ok (.invokestatic 57, 3) := by decide +kernel
theorem dX1_takeFrom_23 : decode cX1_takeFrom 23 = .ok (.aload_n 1, 1) := by decide +kernel
theorem dX1_takeFrom_24 : decode cX1_takeFrom 24 = .ok (.getfield 15, 3) := by decide +kernel
theorem dX1_takeFrom_27 : decode cX1_takeFrom 27 = .ok (.iconst 0, 1) := by decide +kernel
theorem dX1_takeFrom_28 : decode cX1_takeFrom 28 = .ok (.aload_n 0, 1) := by decide +kernel
theorem dX1_takeFrom_29 : decode cX1_takeFrom 29 = .ok (.getfield 15, 3) := by decide +kernel
theorem dX1_takeFrom_32 : decode cX1_takeFrom 32 = .ok (.iconst 0, 1) := by decide +kernel
theorem dX1_takeFrom_33 : decode cX1_takeFrom 33 = .ok (.bipush 60, 2) := by decide +kernel
theorem dX1_takeFrom_35 : decode cX1_takeFrom 35 = .ok (.invokestatic 57, 3) := by decide +kernel
theorem dX1_takeFrom_38 : decode cX1_takeFrom 38 = .ok (.aload_n 1, 1) := by decide +kernel
theorem dX1_takeFrom_39 : decode cX1_takeFrom 39 = .ok (.getfield 18, 3) := by decide +kernel
theorem dX1_takeFrom_42 : decode cX1_takeFrom 42 = .ok (.iconst 0, 1) := by decide +kernel
theorem dX1_takeFrom_43 : decode cX1_takeFrom 43 = .ok (.aload_n 0, 1) := by decide +kernel
theorem dX1_takeFrom_44 : decode cX1_takeFrom 44 = .ok (.getfield 18, 3) := by decide +kernel
theorem dX1_takeFrom_47 : decode cX1_takeFrom 47 = .ok (.iconst 0, 1) := by decide +kernel
theorem dX1_takeFrom_48 : decode cX1_takeFrom 48 = .ok (.bipush 60, 2) := by decide +kernel
theorem dX1_takeFrom_50 : decode cX1_takeFrom 50 = .ok (.invokestatic 57, 3) := by decide +kernel
theorem dX1_takeFrom_53 : decode cX1_takeFrom 53 = .ok (.aload_n 1, 1) := by decide +kernel
theorem dX1_takeFrom_54 : decode cX1_takeFrom 54 = .ok (.getfield 21, 3) := by decide +kernel
theorem dX1_takeFrom_57 : decode cX1_takeFrom 57 = .ok (.iconst 0, 1) := by decide +kernel
theorem dX1_takeFrom_58 : decode cX1_takeFrom 58 = .ok (.aload_n 0, 1) := by decide +kernel
theorem dX1_takeFrom_59 : decode cX1_takeFrom 59 = .ok (.getfield 21, 3) := by decide +kernel
theorem dX1_takeFrom_62 : decode cX1_takeFrom 62 = .ok (.iconst 0, 1) := by decide +kernel
theorem dX1_takeFrom_63 : decode cX1_takeFrom 63 = .ok (.bipush 60, 2) := by decide +kernel
theorem dX1_takeFrom_65 : decode cX1_takeFrom 65 = .ok (.invokestatic 57, 3) := by decide +kernel
theorem dX1_takeFrom_68 : decode cX1_takeFrom 68 = .ok (.aload_n 1, 1) := by decide +kernel
theorem dX1_takeFrom_69 : decode cX1_takeFrom 69 = .ok (.getfield 24, 3) := by decide +kernel
theorem dX1_takeFrom_72 : decode cX1_takeFrom 72 = .ok (.iconst 0, 1) := by decide +kernel
theorem dX1_takeFrom_73 : decode cX1_takeFrom 73 = .ok (.aload_n 0, 1) := by decide +kernel
theorem dX1_takeFrom_74 : decode cX1_takeFrom 74 = .ok (.getfield 24, 3) := by decide +kernel
theorem dX1_takeFrom_77 : decode cX1_takeFrom 77 = .ok (.iconst 0, 1) := by decide +kernel
theorem dX1_takeFrom_78 : decode cX1_takeFrom 78 = .ok (.bipush 60, 2) := by decide +kernel
theorem dX1_takeFrom_80 : decode cX1_takeFrom 80 = .ok (.invokestatic 57, 3) := by decide +kernel
theorem dX1_takeFrom_83 : decode cX1_takeFrom 83 = .ok (.aload_n 1, 1) := by decide +kernel
theorem dX1_takeFrom_84 : decode cX1_takeFrom 84 = .ok (.getfield 27, 3) := by decide +kernel
theorem dX1_takeFrom_87 : decode cX1_takeFrom 87 = .ok (.iconst 0, 1) := by decide +kernel
theorem dX1_takeFrom_88 : decode cX1_takeFrom 88 = .ok (.aload_n 0, 1) := by decide +kernel
theorem dX1_takeFrom_89 : decode cX1_takeFrom 89 = .ok (.getfield 27, 3) := by decide +kernel
theorem dX1_takeFrom_92 : decode cX1_takeFrom 92 = .ok (.iconst 0, 1) := by decide +kernel
theorem dX1_takeFrom_93 : decode cX1_takeFrom 93 = .ok (.bipush 60, 2) := by decide +kernel
theorem dX1_takeFrom_95 : decode cX1_takeFrom 95 = .ok (.invokestatic 57, 3) := by decide +kernel
theorem dX1_takeFrom_98 : decode cX1_takeFrom 98 = .ok (.aload_n 1, 1) := by decide +kernel
theorem dX1_takeFrom_99 : decode cX1_takeFrom 99 = .ok (.getfield 30, 3) := by decide +kernel
theorem dX1_takeFrom_102 : decode cX1_takeFrom 102 = .ok (.iconst 0, 1) := by decide +kernel
theorem dX1_takeFrom_103 : decode cX1_takeFrom 103 = .ok (.aload_n 0, 1) := by decide +kernel
theorem dX1_takeFrom_104 : decode cX1_takeFrom 104 = .ok (.getfield 30, 3) := by decide +kernel
theorem dX1_takeFrom_107 : decode cX1_takeFrom 107 = .ok (.iconst 0, 1) := by decide +kernel
theorem dX1_takeFrom_108 : decode cX1_takeFrom 108 = .ok (.bipush 60, 2) := by decide +kernel
theorem dX1_takeFrom_110 : decode cX1_takeFrom 110 = .ok (.invokestatic 57, 3) := by decide +kernel
theorem dX1_takeFrom_113 : decode cX1_takeFrom 113 = .ok (.aload_n 1, 1) := by decide +kernel
theorem dX1_takeFrom_114 : decode cX1_takeFrom 114 = .ok (.getfield 33, 3) := by decide +kernel
theorem dX1_takeFrom_117 : decode cX1_takeFrom 117 = .ok (.iconst 0, 1) := by decide +kernel
theorem dX1_takeFrom_118 : decode cX1_takeFrom 118 = .ok (.aload_n 0, 1) := by decide +kernel
theorem dX1_takeFrom_119 : decode cX1_takeFrom 119 = .ok (.getfield 33, 3) := by decide +kernel
theorem dX1_takeFrom_122 : decode cX1_takeFrom 122 = .ok (.iconst 0, 1) := by decide +kernel
theorem dX1_takeFrom_123 : decode cX1_takeFrom 123 = .ok (.bipush 60, 2) := by decide +kernel
theorem dX1_takeFrom_125 : decode cX1_takeFrom 125 = .ok (.invokestatic 57, 3) := by decide +kernel
theorem dX1_takeFrom_128 : decode cX1_takeFrom 128 = .ok (.aload_n 1, 1) := by decide +kernel
theorem dX1_takeFrom_129 : decode cX1_takeFrom 129 = .ok (.getfield 36, 3) := by decide +kernel
theorem dX1_takeFrom_132 : decode cX1_takeFrom 132 = .ok (.iconst 0, 1) := by decide +kernel
theorem dX1_takeFrom_133 : decode cX1_takeFrom 133 = .ok (.aload_n 0, 1) := by decide +kernel
theorem dX1_takeFrom_134 : decode cX1_takeFrom 134 = .ok (.getfield 36, 3) := by decide +kernel
theorem dX1_takeFrom_137 : decode cX1_takeFrom 137 = .ok (.iconst 0, 1) := by decide +kernel
theorem dX1_takeFrom_138 : decode cX1_takeFrom 138 = .ok (.bipush 60, 2) := by decide +kernel
theorem dX1_takeFrom_140 : decode cX1_takeFrom 140 = .ok (.invokestatic 57, 3) := by decide +kernel
theorem dX1_takeFrom_143 : decode cX1_takeFrom 143 = .ok (.return_, 1) := by decide +kernel
theorem dX1_remove_0 : decode cX1_remove 0 = .ok (.aload_n 0, 1) := by decide +kernel
theorem dX1_remove_1 : decode cX1_remove 1 = .ok (.iload_n 1, 1) := by decide +kernel
theorem dX1_remove_2 : decode cX1_remove 2 = .ok (.invokevirtual 53, 3) := by decide +kernel
theorem dX1_remove_5 : decode cX1_remove 5 = .ok (.ifCond .ne 4, 3) := by decide +kernel
theorem dX1_remove_8 : decode cX1_remove 8 = .ok (.return_, 1) := by decide +kernel
theorem dX1_remove_9 : decode cX1_remove 9 = .ok (.aload_n 0, 1) := by decide +kernel
theorem dX1_remove_10 : decode cX1_remove 10 = .ok (.getfield 33, 3) := by decide +kernel
theorem dX1_remove_13 : decode cX1_remove 13 = .ok (.iload_n 1, 1) := by decide +kernel
theorem dX1_remove_14 : decode cX1_remove 14 = .ok (.iaload, 1) := by decide +kernel
theorem dX1_remove_15 : decode cX1_remove 15 = .ok (.iload_n 1, 1) := by decide +kernel
theorem dX1_remove_16 : decode cX1_remove 16 = .ok (.isub, 1) := by decide +kernel
theorem dX1_remove_17 : decode cX1_remove 17 = .ok (.istore_n 2, 1) := by decide +kernel
theorem dX1_remove_18 : decode cX1_remove 18 = .ok (.aload_n 0, 1) := by decide +kernel
theorem dX1_remove_19 : decode cX1_remove 19 = .ok (.getfield 33, 3) := by decide +kernel
theorem dX1_remove_22 : decode cX1_remove 22 = .ok (.iload_n 1, 1) := by decide +kernel
theorem dX1_remove_23 : decode cX1_remove 23 = .ok (.iaload, 1) := by decide +kernel
theorem dX1_remove_24 : decode cX1_remove 24 = .ok (.istore_n 3, 1) := by decide +kernel
theorem dX1_remove_25 : decode cX1_remove 25 = .ok (.iload_n 3, 1) := by decide +kernel
theorem dX1_remove_26 : decode cX1_remove 26 = .ok (.aload_n 0, 1) := by decide +kernel
theorem dX1_remove_27 : decode cX1_remove 27 = .ok (.getfield 39, 3) := by decide +kernel
theorem dX1_remove_30 : decode cX1_remove 30 = .ok (.if_icmp .ge 17, 3) := by decide +kernel
theorem dX1_remove_33 : decode cX1_remove 33 = .ok (.aload_n 0, 1) := by decide +kernel
theorem dX1_remove_34 : decode cX1_remove 34 = .ok (.iload_n 3, 1) := by decide +kernel
theorem dX1_remove_35 : decode cX1_remove 35 = .ok (.iload_n 3, 1) := by decide +kernel
theorem dX1_remove_36 : decode cX1_remove 36 = .ok (.iload_n 2, 1) := by decide +kernel
theorem dX1_remove_37 : decode cX1_remove 37 = .ok (.isub, 1) := by decide +kernel
theorem dX1_remove_38 : decode cX1_remove 38 = .ok (.invokevirtual 63, 3) := by decide +kernel
theorem dX1_remove_41 : decode cX1_remove 41 = .ok (.iinc 3 1, 3) := by decide +kernel
theorem dX1_remove_44 : decode cX1_remove 44 = .ok (.goto (-19), 3) := by decide +kernel
theorem dX1_remove_47 : decode cX1_remove 47 = .ok (.aload_n 0, 1) := by decide +kernel
theorem dX1_remove_48 : decode cX1_remove 48 = .ok (.dup, 1) := by decide +kernel
theorem dX1_remove_49 : decode cX1_remove 49 = .ok (.getfield 39, 3) := by decide +kernel
theorem dX1_remove_52 : decode cX1_remove 52 = .ok (.iload_n 2, 1) := by decide +kernel
theorem dX1_remove_53 : decode cX1_remove 53 = .ok (.isub, 1) := by decide +kernel
theorem dX1_remove_54 : decode cX1_remove 54 = .ok (.putfield 39, 3) := by decide +kernel
theorem dX1_remove_57 : decode cX1_remove 57 = .ok (.iconst 0, 1) := by decide +kernel
theorem dX1_remove_58 : decode cX1_remove 58 = .ok (.istore_n 3, 1) := by decide +kernel
theorem dX1_remove_59 : decode cX1_remove 59 = .ok (.iload_n 3, 1) := by decide +kernel
theorem dX1_remove_60 : decode cX1_remove 60 = .ok (.aload_n 0, 1) := by decide +kernel
theorem dX1_remove_61 : decode cX1_remove 61 = .ok (.getfield 39, 3) := by decide +kernel
theorem dX1_remove_64 : decode cX1_remove 64 = .ok (.if_icmp .ge 60, 3) := by decide +kernel
theorem dX1_remove_67 : decode cX1_remove 67 = .ok (.aload_n 0, 1) := by decide +kernel
theorem dX1_remove_68 : decode cX1_remove 68 = .ok (.getfield 27, 3) := by decide +kernel
theorem dX1_remove_71 : decode cX1_remove 71 = .ok (.iload_n 3, 1) := by decide +kernel
theorem dX1_remove_72 : decode cX1_remove 72 = .ok (.aload_n 0, 1) := by decide +kernel
theorem dX1_remove_73 : decode cX1_remove 73 = .ok (.getfield 27, 3) := by decide +kernel
theorem dX1_remove_76 : decode cX1_remove 76 = .ok (.iload_n 3, 1) := by decide +kernel
theorem dX1_remove_77 : decode cX1_remove 77 = .ok (.iaload, 1) := by decide +kernel
theorem dX1_remove_78 : decode cX1_remove 78 = .ok (.iload_n 1, 1) := by decide +kernel
theorem dX1_remove_79 : decode cX1_remove 79 = .ok (.iload_n 2, 1) := by decide +kernel
theorem dX1_remove_80 : decode cX1_remove 80 = .ok (.invokestatic 67, 3) := by decide +kernel
theorem dX1_remove_83 : decode cX1_remove 83 = .ok (.iastore, 1) := by decide +kernel
theorem dX1_remove_84 : decode cX1_remove 84 = .ok (.aload_n 0, 1) := by decide +kernel
theorem dX1_remove_85 : decode cX1_remove 85 = .ok (.getfield 30, 3) := by decide +kernel
theorem dX1_remove_88 : decode cX1_remove 88 = .ok (.iload_n 3, 1) := by decide +kernel
theorem dX1_remove_89 : decode cX1_remove 89 = .ok (.aload_n 0, 1) := by decide +kernel
theorem dX1_remove_90 : decode cX1_remove 90 = .ok (.getfield 30, 3) := by decide +kernel
theorem dX1_remove_93 : decode cX1_remove 93 = .ok (.iload_n 3, 1) := by decide +kernel
theorem dX1_remove_94 : decode cX1_remove 94 = .ok (.iaload, 1) := by decide +kernel
theorem dX1_remove_95 : decode cX1_remove 95 = .ok (.iload_n 1, 1) := by decide +kernel
theorem dX1_remove_96 : decode cX1_remove 96 = .ok (.iload_n 2, 1) := by decide +kernel
theorem dX1_remove_97 : decode cX1_remove 97 = .ok (.invokestatic 67, 3) := by decide +kernel
theorem dX1_remove_100 : decode cX1_remove 100 = .ok (.iastore, 1) := by decide +kernel
theorem dX1_remove_101 : decode cX1_remove 101 = .ok (.aload_n 0, 1) := by decide +kernel
theorem dX1_remove_102 : decode cX1_remove 102 = .ok (.getfield 33, 3) := by decide +kernel
theorem dX1_remove_105 : decode cX1_remove 105 = .ok (.iload_n 3, 1) := by decide +kernel
theorem dX1_remove_106 : decode cX1_remove 106 = .ok (.aload_n 0, 1) := by decide +kernel
theorem dX1_remove_107 : decode cX1_remove 107 = .ok (.getfield 33, 3) := by decide +kernel
theorem dX1_remove_110 : decode cX1_remove 110 = .ok (.iload_n 3, 1) := by decide +kernel
theorem dX1_remove_111 : decode cX1_remove 111 = .ok (.iaload, 1) := by decide +kernel
theorem dX1_remove_112 : decode cX1_remove 112 = .ok (.iload_n 1, 1) := by decide +kernel
theorem dX1_remove_113 : decode cX1_remove 113 = .ok (.iload_n 2, 1) := by decide +kernel
theorem dX1_remove_114 : decode cX1_remove 114 = .ok (.invokestatic 67, 3) := by decide +kernel
theorem dX1_remove_117 : decode cX1_remove 117 = .ok (.iastore, 1) := by decide +kernel
theorem dX1_remove_118 : decode cX1_remove 118 = .ok (.iinc 3 1, 3) := by decide +kernel
theorem dX1_remove_121 : decode cX1_remove 121 = .ok (.goto (-62), 3) := by decide +kernel
theorem dX1_remove_124 : decode cX1_remove 124 = .ok (.aload_n 0, 1) := by decide +kernel
theorem dX1_remove_125 : decode cX1_remove 125 = .ok (.invokevirtual 71, 3) := by decide +kernel
theorem dX1_remove_128 : decode cX1_remove 128 = .ok (.return_, 1) := by decide +kernel
theorem dX1_moveDown_0 : decode cX1_moveDown 0 = .ok (.aload_n 0, 1) := by decide +kernel
theorem dX1_moveDown_1 : decode cX1_moveDown 1 = .ok (.iload_n 1, 1) := by decide +kernel
theorem dX1_moveDown_2 : decode cX1_moveDown 2 = .ok (.invokevirtual 53, 3) := by decide +kernel
theorem dX1_moveDown_5 : decode cX1_moveDown 5 = .ok (.ifCond .eq 107, 3) := by decide +kernel
theorem dX1_moveDown_8 : decode cX1_moveDown 8 = .ok (.aload_n 0, 1) := by decide +kernel
theorem dX1_moveDown_9 : decode cX1_moveDown 9 = .ok (.iload_n 2, 1) := by decide +kernel
theorem dX1_moveDown_10 : decode cX1_moveDown 10 = .ok (.invokevirtual 53, 3) := by decide +kernel
theorem dX1_moveDown_13 : decode cX1_moveDown 13 = .ok (.ifCond .eq 99, 3) := by decide +kernel
theorem dX1_moveDown_16 : decode cX1_moveDown 16 = .ok (.aload_n 0, 1) := by decide +kernel
theorem dX1_moveDown_17 : decode cX1_moveDown 17 = .ok (.getfield 9, 3) := by decide +kernel
theorem dX1_moveDown_20 : decode cX1_moveDown 20 = .ok (.iload_n 2, 1) := by decide +kernel
theorem dX1_moveDown_21 : decode cX1_moveDown 21 = .ok (.aload_n 0, 1) := by decide +kernel
theorem dX1_moveDown_22 : decode cX1_moveDown 22 = .ok (.getfield 9, 3) := by decide +kernel
theorem dX1_moveDown_25 : decode cX1_moveDown 25 = .ok (.iload_n 1, 1) := by decide +kernel
theorem dX1_moveDown_26 : decode cX1_moveDown 26 = .ok (.iaload, 1) := by decide +kernel
theorem dX1_moveDown_27 : decode cX1_moveDown 27 = .ok (.iastore, 1) := by decide +kernel
theorem dX1_moveDown_28 : decode cX1_moveDown 28 = .ok (.aload_n 0, 1) := by decide +kernel
theorem dX1_moveDown_29 : decode cX1_moveDown 29 = .ok (.getfield 15, 3) := by decide +kernel
theorem dX1_moveDown_32 : decode cX1_moveDown 32 = .ok (.iload_n 2, 1) := by decide +kernel
theorem dX1_moveDown_33 : decode cX1_moveDown 33 = .ok (.aload_n 0, 1) := by decide +kernel
theorem dX1_moveDown_34 : decode cX1_moveDown 34 = .ok (.getfield 15, 3) := by decide +kernel
theorem dX1_moveDown_37 : decode cX1_moveDown 37 = .ok (.iload_n 1, 1) := by decide +kernel
theorem dX1_moveDown_38 : decode cX1_moveDown 38 = .ok (.iaload, 1) := by decide +kernel
theorem dX1_moveDown_39 : decode cX1_moveDown 39 = .ok (.iastore, 1) := by decide +kernel
theorem dX1_moveDown_40 : decode cX1_moveDown 40 = .ok (.aload_n 0, 1) := by decide +kernel
theorem dX1_moveDown_41 : decode cX1_moveDown 41 = .ok (.getfield 18, 3) := by decide +kernel
theorem dX1_moveDown_44 : decode cX1_moveDown 44 = .ok (.iload_n 2, 1) := by decide +kernel
theorem dX1_moveDown_45 : decode cX1_moveDown 45 = .ok (.aload_n 0, 1) := by decide +kernel
theorem dX1_moveDown_46 : decode cX1_moveDown 46 = .ok (.getfield 18, 3) := by decide +kernel
theorem dX1_moveDown_49 : decode cX1_moveDown 49 = .ok (.iload_n 1, 1) := by decide +kernel
theorem dX1_moveDown_50 : decode cX1_moveDown 50 = .ok (.iaload, 1) := by decide +kernel
theorem dX1_moveDown_51 : decode cX1_moveDown 51 = .ok (.iastore, 1) := by decide +kernel
theorem dX1_moveDown_52 : decode cX1_moveDown 52 = .ok (.aload_n 0, 1) := by decide +kernel
theorem dX1_moveDown_53 : decode cX1_moveDown 53 = .ok (.getfield 21, 3) := by decide +kernel
theorem dX1_moveDown_56 : decode cX1_moveDown 56 = .ok (.iload_n 2, 1) := by decide +kernel
theorem dX1_moveDown_57 : decode cX1_moveDown 57 = .ok (.aload_n 0, 1) := by decide +kernel
theorem dX1_moveDown_58 : decode cX1_moveDown 58 = .ok (.getfield 21, 3) := by decide +kernel
theorem dX1_moveDown_61 : decode cX1_moveDown 61 = .ok (.iload_n 1, 1) := by decide +kernel
theorem dX1_moveDown_62 : decode cX1_moveDown 62 = .ok (.iaload, 1) := by decide +kernel
theorem dX1_moveDown_63 : decode cX1_moveDown 63 = .ok (.iastore, 1) := by decide +kernel
theorem dX1_moveDown_64 : decode cX1_moveDown 64 = .ok (.aload_n 0, 1) := by decide +kernel
theorem dX1_moveDown_65 : decode cX1_moveDown 65 = .ok (.getfield 24, 3) := by decide +kernel
theorem dX1_moveDown_68 : decode cX1_moveDown 68 = .ok (.iload_n 2, 1) := by decide +kernel
theorem dX1_moveDown_69 : decode cX1_moveDown 69 = .ok (.aload_n 0, 1) := by decide +kernel
theorem dX1_moveDown_70 : decode cX1_moveDown 70 = .ok (.getfield 24, 3) := by decide +kernel
theorem dX1_moveDown_73 : decode cX1_moveDown 73 = .ok (.iload_n 1, 1) := by decide +kernel
theorem dX1_moveDown_74 : decode cX1_moveDown 74 = .ok (.iaload, 1) := by decide +kernel
theorem dX1_moveDown_75 : decode cX1_moveDown 75 = .ok (.iastore, 1) := by decide +kernel
theorem dX1_moveDown_76 : decode cX1_moveDown 76 = .ok (.aload_n 0, 1) := by decide +kernel
theorem dX1_moveDown_77 : decode cX1_moveDown 77 = .ok (.getfield 27, 3) := by decide +kernel
theorem dX1_moveDown_80 : decode cX1_moveDown 80 = .ok (.iload_n 2, 1) := by decide +kernel
theorem dX1_moveDown_81 : decode cX1_moveDown 81 = .ok (.aload_n 0, 1) := by decide +kernel
theorem dX1_moveDown_82 : decode cX1_moveDown 82 = .ok (.getfield 27, 3) := by decide +kernel
theorem dX1_moveDown_85 : decode cX1_moveDown 85 = .ok (.iload_n 1, 1) := by decide +kernel
theorem dX1_moveDown_86 : decode cX1_moveDown 86 = .ok (.iaload, 1) := by decide +kernel
theorem dX1_moveDown_87 : decode cX1_moveDown 87 = .ok (.iastore, 1) := by decide +kernel
theorem dX1_moveDown_88 : decode cX1_moveDown 88 = .ok (.aload_n 0, 1) := by decide +kernel
theorem dX1_moveDown_89 : decode cX1_moveDown 89 = .ok (.getfield 30, 3) := by decide +kernel
theorem dX1_moveDown_92 : decode cX1_moveDown 92 = .ok (.iload_n 2, 1) := by decide +kernel
theorem dX1_moveDown_93 : decode cX1_moveDown 93 = .ok (.aload_n 0, 1) := by decide +kernel
theorem dX1_moveDown_94 : decode cX1_moveDown 94 = .ok (.getfield 30, 3) := by decide +kernel
theorem dX1_moveDown_97 : decode cX1_moveDown 97 = .ok (.iload_n 1, 1) := by decide +kernel
theorem dX1_moveDown_98 : decode cX1_moveDown 98 = .ok (.iaload, 1) := by decide +kernel
theorem dX1_moveDown_99 : decode cX1_moveDown 99 = .ok (.iastore, 1) := by decide +kernel
theorem dX1_moveDown_100 : decode cX1_moveDown 100 = .ok (.aload_n 0, 1) := by decide +kernel
theorem dX1_moveDown_101 : decode cX1_moveDown 101 = .ok (.getfield 33, 3) := by decide +kernel
theorem dX1_moveDown_104 : decode cX1_moveDown 104 = .ok (.iload_n 2, 1) := by decide +kernel
theorem dX1_moveDown_105 : decode cX1_moveDown 105 = .ok (.aload_n 0, 1) := by decide +kernel
theorem dX1_moveDown_106 : decode cX1_moveDown 106 = .ok (.getfield 33, 3) := by decide +kernel
theorem dX1_moveDown_109 : decode cX1_moveDown 109 = .ok (.iload_n 1, 1) := by decide +kernel
theorem dX1_moveDown_110 : decode cX1_moveDown 110 = .ok (.iaload, 1) := by decide +kernel
theorem dX1_moveDown_111 : decode cX1_moveDown 111 = .ok (.iastore, 1) := by decide +kernel
theorem dX1_moveDown_112 : decode cX1_moveDown 112 = .ok (.return_, 1) := by decide +kernel
theorem dX1_placeWithout_0 : decode cX1_placeWithout 0 = .ok (.iload_n 0, 1) := by decide +kernel
theorem dX1_placeWithout_1 : decode cX1_placeWithout 1 = .ok (.iload_n 1, 1) := by decide +kernel
theorem dX1_placeWithout_2 : decode cX1_placeWithout 2 = .ok (.if_icmp .le 9, 3) := by decide +kernel
theorem dX1_placeWithout_5 : decode cX1_placeWithout 5 = .ok (.iload_n 0, 1) := by decide +kernel
theorem dX1_placeWithout_6 : decode cX1_placeWithout 6 = .ok (.iload_n 2, 1) := by decide +kernel
theorem dX1_placeWithout_7 : decode cX1_placeWithout 7 = .ok (.isub, 1) := by decide +kernel
theorem dX1_placeWithout_8 : decode cX1_placeWithout 8 = .ok (.goto 4, 3) := by decide +kernel
theorem dX1_placeWithout_11 : decode cX1_placeWithout 11 = .ok (.iload_n 0, 1) := by decide +kernel
theorem dX1_placeWithout_12 : decode cX1_placeWithout 12 = .ok (.ireturn, 1) := by decide +kernel
theorem dX1_link_0 : decode cX1_link 0 = .ok (.iconst 0, 1) := by decide +kernel
theorem dX1_link_1 : decode cX1_link 1 = .ok (.istore_n 1, 1) := by decide +kernel
theorem dX1_link_2 : decode cX1_link 2 = .ok (.iload_n 1, 1) := by decide +kernel
theorem dX1_link_3 : decode cX1_link 3 = .ok (.aload_n 0, 1) := by decide +kernel
theorem dX1_link_4 : decode cX1_link 4 = .ok (.getfield 39, 3) := by decide +kernel
theorem dX1_link_7 : decode cX1_link 7 = .ok (.if_icmp .ge 20, 3) := by decide +kernel
theorem dX1_link_10 : decode cX1_link 10 = .ok (.aload_n 0, 1) := by decide +kernel
theorem dX1_link_11 : decode cX1_link 11 = .ok (.getfield 36, 3) := by decide +kernel
theorem dX1_link_14 : decode cX1_link 14 = .ok (.iload_n 1, 1) := by decide +kernel
theorem dX1_link_15 : decode cX1_link 15 = .ok (.aload_n 0, 1) := by decide +kernel
theorem dX1_link_16 : decode cX1_link 16 = .ok (.iload_n 1, 1) := by decide +kernel
theorem dX1_link_17 : decode cX1_link 17 = .ok (.invokevirtual 74, 3) := by decide +kernel
theorem dX1_link_20 : decode cX1_link 20 = .ok (.iastore, 1) := by decide +kernel
theorem dX1_link_21 : decode cX1_link 21 = .ok (.iinc 1 1, 3) := by decide +kernel
theorem dX1_link_24 : decode cX1_link 24 = .ok (.goto (-22), 3) := by decide +kernel
theorem dX1_link_27 : decode cX1_link 27 = .ok (.return_, 1) := by decide +kernel
theorem dX1_followerOf_0 : decode cX1_followerOf 0 = .ok (.aload_n 0, 1) := by decide +kernel
theorem dX1_followerOf_1 : decode cX1_followerOf 1 = .ok (.aload_n 0, 1) := by decide +kernel
theorem dX1_followerOf_2 : decode cX1_followerOf 2 = .ok (.getfield 33, 3) := by decide +kernel
theorem dX1_followerOf_5 : decode cX1_followerOf 5 = .ok (.iload_n 1, 1) := by decide +kernel
theorem dX1_followerOf_6 : decode cX1_followerOf 6 = .ok (.invokevirtual 78, 3) := by decide +kernel
theorem dX1_followerOf_9 : decode cX1_followerOf 9 = .ok (.istore_n 2, 1) := by decide +kernel
theorem dX1_followerOf_10 : decode cX1_followerOf 10 = .ok (.aload_n 0, 1) := by decide +kernel
theorem dX1_followerOf_11 : decode cX1_followerOf 11 = .ok (.aload_n 0, 1) := by decide +kernel
theorem dX1_followerOf_12 : decode cX1_followerOf 12 = .ok (.getfield 27, 3) := by decide +kernel
theorem dX1_followerOf_15 : decode cX1_followerOf 15 = .ok (.iload_n 1, 1) := by decide +kernel
theorem dX1_followerOf_16 : decode cX1_followerOf 16 = .ok (.invokevirtual 78, 3) := by decide +kernel
theorem dX1_followerOf_19 : decode cX1_followerOf 19 = .ok (.istore_n 3, 1) := by decide +kernel
theorem dX1_followerOf_20 : decode cX1_followerOf 20 = .ok (.aload_n 0, 1) := by decide +kernel
theorem dX1_followerOf_21 : decode cX1_followerOf 21 = .ok (.iload_n 3, 1) := by decide +kernel
theorem dX1_followerOf_22 : decode cX1_followerOf 22 = .ok (.invokevirtual 53, 3) := by decide +kernel
theorem dX1_followerOf_25 : decode cX1_followerOf 25 = .ok (.ifCond .ne 5, 3) := by decide +kernel
theorem dX1_followerOf_28 : decode cX1_followerOf 28 = .ok (.iload_n 2, 1) := by decide +kernel
theorem dX1_followerOf_29 : decode cX1_followerOf 29 = .ok (.ireturn, 1) := by decide +kernel
theorem dX1_followerOf_30 : decode cX1_followerOf 30 = .ok (.iload_n 1, 1) := by decide +kernel
theorem dX1_followerOf_31 : decode cX1_followerOf 31 = .ok (.aload_n 0, 1) := by decide +kernel
theorem dX1_followerOf_32 : decode cX1_followerOf 32 = .ok (.getfield 30, 3) := by decide +kernel
theorem dX1_followerOf_35 : decode cX1_followerOf 35 = .ok (.iload_n 3, 1) := by decide +kernel
theorem dX1_followerOf_36 : decode cX1_followerOf 36 = .ok (.iaload, 1) := by decide +kernel
theorem dX1_followerOf_37 : decode cX1_followerOf 37 = .ok (.if_icmp .ge 12, 3) := by decide +kernel
theorem dX1_followerOf_40 : decode cX1_followerOf 40 = .ok (.aload_n 0, 1) := by decide +kernel
theorem dX1_followerOf_41 : decode cX1_followerOf 41 = .ok (.getfield 30, 3) := by decide +kernel
theorem dX1_followerOf_44 : decode cX1_followerOf 44 = .ok (.iload_n 3, 1) := by decide +kernel
theorem dX1_followerOf_45 : decode cX1_followerOf 45 = .ok (.iaload, 1) := by decide +kernel
theorem dX1_followerOf_46 : decode cX1_followerOf 46 = .ok (.goto 9, 3) := by decide +kernel
theorem dX1_followerOf_49 : decode cX1_followerOf 49 = .ok (.aload_n 0, 1) := by decide +kernel
theorem dX1_followerOf_50 : decode cX1_followerOf 50 = .ok (.getfield 33, 3) := by decide +kernel
theorem dX1_followerOf_53 : decode cX1_followerOf 53 = .ok (.iload_n 3, 1) := by decide +kernel
theorem dX1_followerOf_54 : decode cX1_followerOf 54 = .ok (.iaload, 1) := by decide +kernel
theorem dX1_followerOf_55 : decode cX1_followerOf 55 = .ok (.istore 4, 2) := by decide +kernel
theorem dX1_followerOf_57 : decode cX1_followerOf 57 = .ok (.iload_n 2, 1) := by decide +kernel
theorem dX1_followerOf_58 : decode cX1_followerOf 58 = .ok (.iload 4, 2) := by decide +kernel
theorem dX1_followerOf_60 : decode cX1_followerOf 60 = .ok (.if_icmp .ge 5, 3) := by decide +kernel
theorem dX1_followerOf_63 : decode cX1_followerOf 63 = .ok (.iload_n 2, 1) := by decide +kernel
theorem dX1_followerOf_64 : decode cX1_followerOf 64 = .ok (.ireturn, 1) := by decide +kernel
theorem dX1_followerOf_65 : decode cX1_followerOf 65 = .ok (.aload_n 0, 1) := by decide +kernel
theorem dX1_followerOf_66 : decode cX1_followerOf 66 = .ok (.getfield 9, 3) := by decide +kernel
theorem dX1_followerOf_69 : decode cX1_followerOf 69 = .ok (.iload_n 3, 1) := by decide +kernel
theorem dX1_followerOf_70 : decode cX1_followerOf 70 = .ok (.iaload, 1) := by decide +kernel
theorem dX1_followerOf_71 : decode cX1_followerOf 71 = .ok (.iconst 4, 1) := by decide +kernel
theorem dX1_followerOf_72 : decode cX1_followerOf 72 = .ok (.if_icmp .ne 7, 3) := by decide +kernel
theorem dX1_followerOf_75 : decode cX1_followerOf 75 = .ok (.iload_n 3, 1) := by decide +kernel
theorem dX1_followerOf_76 : decode cX1_followerOf 76 = .ok (.goto 9, 3) := by decide +kernel
theorem dX1_followerOf_79 : decode cX1_followerOf 79 = .ok (.aload_n 0, 1) := by decide +kernel
theorem dX1_followerOf_80 : decode cX1_followerOf 80 = .ok (.getfield 36, 3) := by decide +kernel
theorem dX1_followerOf_83 : decode cX1_followerOf 83 = .ok (.iload_n 3, 1) := by decide +kernel
theorem dX1_followerOf_84 : decode cX1_followerOf 84 = .ok (.iaload, 1) := by decide +kernel
theorem dX1_followerOf_85 : decode cX1_followerOf 85 = .ok (.ireturn, 1) := by decide +kernel
theorem dX1_entered_0 : decode cX1_entered 0 = .ok (.aload_n 0, 1) := by decide +kernel
theorem dX1_entered_1 : decode cX1_entered 1 = .ok (.aload_n 0, 1) := by decide +kernel
theorem dX1_entered_2 : decode cX1_entered 2 = .ok (.getfield 30, 3) := by decide +kernel
theorem dX1_entered_5 : decode cX1_entered 5 = .ok (.iload_n 1, 1) := by decide +kernel
theorem dX1_entered_6 : decode cX1_entered 6 = .ok (.invokevirtual 78, 3) := by decide +kernel
theorem dX1_entered_9 : decode cX1_entered 9 = .ok (.iload_n 1, 1) := by decide +kernel
theorem dX1_entered_10 : decode cX1_entered 10 = .ok (.iconst 1, 1) := by decide +kernel
theorem dX1_entered_11 : decode cX1_entered 11 = .ok (.iadd, 1) := by decide +kernel
theorem dX1_entered_12 : decode cX1_entered 12 = .ok (.if_icmp .le 7, 3) := by decide +kernel
theorem dX1_entered_15 : decode cX1_entered 15 = .ok (.iload_n 1, 1) := by decide +kernel
theorem dX1_entered_16 : decode cX1_entered 16 = .ok (.iconst 1, 1) := by decide +kernel
theorem dX1_entered_17 : decode cX1_entered 17 = .ok (.iadd, 1) := by decide +kernel
theorem dX1_entered_18 : decode cX1_entered 18 = .ok (.ireturn, 1) := by decide +kernel
theorem dX1_entered_19 : decode cX1_entered 19 = .ok (.aload_n 0, 1) := by decide +kernel
theorem dX1_entered_20 : decode cX1_entered 20 = .ok (.iload_n 1, 1) := by decide +kernel
theorem dX1_entered_21 : decode cX1_entered 21 = .ok (.invokevirtual 82, 3) := by decide +kernel
theorem dX1_entered_24 : decode cX1_entered 24 = .ok (.iconst 4, 1) := by decide +kernel
theorem dX1_entered_25 : decode cX1_entered 25 = .ok (.if_icmp .ne 7, 3) := by decide +kernel
theorem dX1_entered_28 : decode cX1_entered 28 = .ok (.iload_n 1, 1) := by decide +kernel
theorem dX1_entered_29 : decode cX1_entered 29 = .ok (.goto 8, 3) := by decide +kernel
theorem dX1_entered_32 : decode cX1_entered 32 = .ok (.aload_n 0, 1) := by decide +kernel
theorem dX1_entered_33 : decode cX1_entered 33 = .ok (.iload_n 1, 1) := by decide +kernel
theorem dX1_entered_34 : decode cX1_entered 34 = .ok (.invokevirtual 85, 3) := by decide +kernel
theorem dX1_entered_37 : decode cX1_entered 37 = .ok (.ireturn, 1) := by decide +kernel
theorem dX1_passed_0 : decode cX1_passed 0 = .ok (.aload_n 0, 1) := by decide +kernel
theorem dX1_passed_1 : decode cX1_passed 1 = .ok (.aload_n 0, 1) := by decide +kernel
theorem dX1_passed_2 : decode cX1_passed 2 = .ok (.getfield 30, 3) := by decide +kernel
theorem dX1_passed_5 : decode cX1_passed 5 = .ok (.iload_n 1, 1) := by decide +kernel
theorem dX1_passed_6 : decode cX1_passed 6 = .ok (.invokevirtual 78, 3) := by decide +kernel
theorem dX1_passed_9 : decode cX1_passed 9 = .ok (.istore_n 2, 1) := by decide +kernel
theorem dX1_passed_10 : decode cX1_passed 10 = .ok (.aload_n 0, 1) := by decide +kernel
theorem dX1_passed_11 : decode cX1_passed 11 = .ok (.aload_n 0, 1) := by decide +kernel
theorem dX1_passed_12 : decode cX1_passed 12 = .ok (.getfield 33, 3) := by decide +kernel
theorem dX1_passed_15 : decode cX1_passed 15 = .ok (.iload_n 1, 1) := by decide +kernel
theorem dX1_passed_16 : decode cX1_passed 16 = .ok (.invokevirtual 78, 3) := by decide +kernel
theorem dX1_passed_19 : decode cX1_passed 19 = .ok (.iload_n 2, 1) := by decide +kernel
theorem dX1_passed_20 : decode cX1_passed 20 = .ok (.if_icmp .le 7, 3) := by decide +kernel
theorem dX1_passed_23 : decode cX1_passed 23 = .ok (.iload_n 2, 1) := by decide +kernel
theorem dX1_passed_24 : decode cX1_passed 24 = .ok (.goto 8, 3) := by decide +kernel
theorem dX1_passed_27 : decode cX1_passed 27 = .ok (.aload_n 0, 1) := by decide +kernel
theorem dX1_passed_28 : decode cX1_passed 28 = .ok (.iload_n 1, 1) := by decide +kernel
theorem dX1_passed_29 : decode cX1_passed 29 = .ok (.invokevirtual 85, 3) := by decide +kernel
theorem dX1_passed_32 : decode cX1_passed 32 = .ok (.ireturn, 1) := by decide +kernel
theorem dX1_kindOf_0 : decode cX1_kindOf 0 = .ok (.aload_n 0, 1) := by decide +kernel
theorem dX1_kindOf_1 : decode cX1_kindOf 1 = .ok (.aload_n 0, 1) := by decide +kernel
theorem dX1_kindOf_2 : decode cX1_kindOf 2 = .ok (.getfield 9, 3) := by decide +kernel
theorem dX1_kindOf_5 : decode cX1_kindOf 5 = .ok (.iload_n 1, 1) := by decide +kernel
theorem dX1_kindOf_6 : decode cX1_kindOf 6 = .ok (.invokevirtual 78, 3) := by decide +kernel
theorem dX1_kindOf_9 : decode cX1_kindOf 9 = .ok (.ireturn, 1) := by decide +kernel
theorem dX1_targetOf_0 : decode cX1_targetOf 0 = .ok (.aload_n 0, 1) := by decide +kernel
theorem dX1_targetOf_1 : decode cX1_targetOf 1 = .ok (.aload_n 0, 1) := by decide +kernel
theorem dX1_targetOf_2 : decode cX1_targetOf 2 = .ok (.getfield 15, 3) := by decide +kernel
theorem dX1_targetOf_5 : decode cX1_targetOf 5 = .ok (.iload_n 1, 1) := by decide +kernel
theorem dX1_targetOf_6 : decode cX1_targetOf 6 = .ok (.invokevirtual 78, 3) := by decide +kernel
theorem dX1_targetOf_9 : decode cX1_targetOf 9 = .ok (.ireturn, 1) := by decide +kernel
theorem dX1_leftOf_0 : decode cX1_leftOf 0 = .ok (.aload_n 0, 1) := by decide +kernel
theorem dX1_leftOf_1 : decode cX1_leftOf 1 = .ok (.aload_n 0, 1) := by decide +kernel
theorem dX1_leftOf_2 : decode cX1_leftOf 2 = .ok (.getfield 18, 3) := by decide +kernel
theorem dX1_leftOf_5 : decode cX1_leftOf 5 = .ok (.iload_n 1, 1) := by decide +kernel
theorem dX1_leftOf_6 : decode cX1_leftOf 6 = .ok (.invokevirtual 78, 3) := by decide +kernel
theorem dX1_leftOf_9 : decode cX1_leftOf 9 = .ok (.ireturn, 1) := by decide +kernel
theorem dX1_operatorOf_0 : decode cX1_operatorOf 0 = .ok (.aload_n 0, 1) := by decide +kernel
theorem dX1_operatorOf_1 : decode cX1_operatorOf 1 = .ok (.aload_n 0, 1) := by decide +kernel
theorem dX1_operatorOf_2 : decode cX1_operatorOf 2 = .ok (.getfield 21, 3) := by decide +kernel
theorem dX1_operatorOf_5 : decode cX1_operatorOf 5 = .ok (.iload_n 1, 1) := by decide +kernel
theorem dX1_operatorOf_6 : decode cX1_operatorOf 6 = .ok (.invokevirtual 78, 3) := by decide +kernel
theorem dX1_operatorOf_9 : decode cX1_operatorOf 9 = .ok (.ireturn, 1) := by decide +kernel
theorem dX1_rightOf_0 : decode cX1_rightOf 0 = .ok (.aload_n 0, 1) := by decide +kernel
theorem dX1_rightOf_1 : decode cX1_rightOf 1 = .ok (.aload_n 0, 1) := by decide +kernel
theorem dX1_rightOf_2 : decode cX1_rightOf 2 = .ok (.getfield 24, 3) := by decide +kernel
theorem dX1_rightOf_5 : decode cX1_rightOf 5 = .ok (.iload_n 1, 1) := by decide +kernel
theorem dX1_rightOf_6 : decode cX1_rightOf 6 = .ok (.invokevirtual 78, 3) := by decide +kernel
theorem dX1_rightOf_9 : decode cX1_rightOf 9 = .ok (.ireturn, 1) := by decide +kernel
theorem dX1_followerAt_0 : decode cX1_followerAt 0 = .ok (.aload_n 0, 1) := by decide +kernel
theorem dX1_followerAt_1 : decode cX1_followerAt 1 = .ok (.aload_n 0, 1) := by decide +kernel
theorem dX1_followerAt_2 : decode cX1_followerAt 2 = .ok (.getfield 36, 3) := by decide +kernel
theorem dX1_followerAt_5 : decode cX1_followerAt 5 = .ok (.iload_n 1, 1) := by decide +kernel
theorem dX1_followerAt_6 : decode cX1_followerAt 6 = .ok (.invokevirtual 78, 3) := by decide +kernel
theorem dX1_followerAt_9 : decode cX1_followerAt 9 = .ok (.ireturn, 1) := by decide +kernel
theorem dX1_item_0 : decode cX1_item 0 = .ok (.aload_n 0, 1) := by decide +kernel
theorem dX1_item_1 : decode cX1_item 1 = .ok (.iload_n 2, 1) := by decide +kernel
theorem dX1_item_2 : decode cX1_item 2 = .ok (.invokevirtual 53, 3) := by decide +kernel
theorem dX1_item_5 : decode cX1_item 5 = .ok (.ifCond .eq 9, 3) := by decide +kernel
theorem dX1_item_8 : decode cX1_item 8 = .ok (.aload_n 1, 1) := by decide +kernel
theorem dX1_item_9 : decode cX1_item 9 = .ok (.iload_n 2, 1) := by decide +kernel
theorem dX1_item_10 : decode cX1_item 10 = .ok (.iaload, 1) := by decide +kernel
theorem dX1_item_11 : decode cX1_item 11 = .ok (.goto 4, 3) := by decide +kernel
theorem dX1_item_14 : decode cX1_item 14 = .ok (.iconst 0, 1) := by decide +kernel
theorem dX1_item_15 : decode cX1_item 15 = .ok (.ireturn, 1) := by decide +kernel
theorem dX1_tally_0 : decode cX1_tally 0 = .ok (.iconst 0, 1) := by decide +kernel
theorem dX1_tally_1 : decode cX1_tally 1 = .ok (.istore_n 2, 1) := by decide +kernel
theorem dX1_tally_2 : decode cX1_tally 2 = .ok (.iconst 0, 1) := by decide +kernel
theorem dX1_tally_3 : decode cX1_tally 3 = .ok (.istore_n 3, 1) := by decide +kernel
theorem dX1_tally_4 : decode cX1_tally 4 = .ok (.iload_n 3, 1) := by decide +kernel
theorem dX1_tally_5 : decode cX1_tally 5 = .ok (.aload_n 0, 1) := by decide +kernel
theorem dX1_tally_6 : decode cX1_tally 6 = .ok (.getfield 39, 3) := by decide +kernel
theorem dX1_tally_9 : decode cX1_tally 9 = .ok (.if_icmp .ge 22, 3) := by decide +kernel
theorem dX1_tally_12 : decode cX1_tally 12 = .ok (.aload_n 0, 1) := by decide +kernel
theorem dX1_tally_13 : decode cX1_tally 13 = .ok (.getfield 9, 3) := by decide +kernel
theorem dX1_tally_16 : decode cX1_tally 16 = .ok (.iload_n 3, 1) := by decide +kernel
theorem dX1_tally_17 : decode cX1_tally 17 = .ok (.iaload, 1) := by decide +kernel
theorem dX1_tally_18 : decode cX1_tally 18 = .ok (.iload_n 1, 1) := by decide +kernel
theorem dX1_tally_19 : decode cX1_tally 19 = .ok (.if_icmp .ne 6, 3) := by decide +kernel
theorem dX1_tally_22 : decode cX1_tally 22 = .ok (.iinc 2 1, 3) := by decide +kernel
theorem dX1_tally_25 : decode cX1_tally 25 = .ok (.iinc 3 1, 3) := by decide +kernel
theorem dX1_tally_28 : decode cX1_tally 28 = .ok (.goto (-24), 3) := by decide +kernel
theorem dX1_tally_31 : decode cX1_tally 31 = .ok (.iload_n 2, 1) := by decide +kernel
theorem dX1_tally_32 : decode cX1_tally 32 = .ok (.ireturn, 1) := by decide +kernel
theorem dX1_nesting_0 : decode cX1_nesting 0 = .ok (.iconst 0, 1) := by decide +kernel
theorem dX1_nesting_1 : decode cX1_nesting 1 = .ok (.istore_n 1, 1) := by decide +kernel
theorem dX1_nesting_2 : decode cX1_nesting 2 = .ok (.iconst 0, 1) := by decide +kernel
theorem dX1_nesting_3 : decode cX1_nesting 3 = .ok (.istore_n 2, 1) := by decide +kernel
theorem dX1_nesting_4 : decode cX1_nesting 4 = .ok (.iload_n 2, 1) := by decide +kernel
theorem dX1_nesting_5 : decode cX1_nesting 5 = .ok (.aload_n 0, 1) := by decide +kernel
theorem dX1_nesting_6 : decode cX1_nesting 6 = .ok (.getfield 39, 3) := by decide +kernel
theorem dX1_nesting_9 : decode cX1_nesting 9 = .ok (.if_icmp .ge 39, 3) := by decide +kernel
theorem dX1_nesting_12 : decode cX1_nesting 12 = .ok (.aload_n 0, 1) := by decide +kernel
theorem dX1_nesting_13 : decode cX1_nesting 13 = .ok (.getfield 9, 3) := by decide +kernel
theorem dX1_nesting_16 : decode cX1_nesting 16 = .ok (.iload_n 2, 1) := by decide +kernel
theorem dX1_nesting_17 : decode cX1_nesting 17 = .ok (.iaload, 1) := by decide +kernel
theorem dX1_nesting_18 : decode cX1_nesting 18 = .ok (.iconst 4, 1) := by decide +kernel
theorem dX1_nesting_19 : decode cX1_nesting 19 = .ok (.if_icmp .eq 13, 3) := by decide +kernel
theorem dX1_nesting_22 : decode cX1_nesting 22 = .ok (.aload_n 0, 1) := by decide +kernel
theorem dX1_nesting_23 : decode cX1_nesting 23 = .ok (.getfield 9, 3) := by decide +kernel
theorem dX1_nesting_26 : decode cX1_nesting 26 = .ok (.iload_n 2, 1) := by decide +kernel
theorem dX1_nesting_27 : decode cX1_nesting 27 = .ok (.iaload, 1) := by decide +kernel
theorem dX1_nesting_28 : decode cX1_nesting 28 = .ok (.iconst 5, 1) := by decide +kernel
theorem dX1_nesting_29 : decode cX1_nesting 29 = .ok (.if_icmp .ne 13, 3) := by decide +kernel
theorem dX1_nesting_32 : decode cX1_nesting 32 = .ok (.iload_n 1, 1) := by decide +kernel
theorem dX1_nesting_33 : decode cX1_nesting 33 = .ok (.aload_n 0, 1) := by decide +kernel
theorem dX1_nesting_34 : decode cX1_nesting 34 = .ok (.iload_n 2, 1) := by decide +kernel
theorem dX1_nesting_35 : decode cX1_nesting 35 = .ok (.invokevirtual 88, 3) := by decide +kernel
theorem dX1_nesting_38 : decode cX1_nesting 38 = .ok (.invokestatic 91, 3) := by decide +kernel
theorem dX1_nesting_41 : decode cX1_nesting 41 = .ok (.istore_n 1, 1) := by decide +kernel
theorem dX1_nesting_42 : decode cX1_nesting 42 = .ok (.iinc 2 1, 3) := by decide +kernel
theorem dX1_nesting_45 : decode cX1_nesting 45 = .ok (.goto (-41), 3) := by decide +kernel
theorem dX1_nesting_48 : decode cX1_nesting 48 = .ok (.iload_n 1, 1) := by decide +kernel
theorem dX1_nesting_49 : decode cX1_nesting 49 = .ok (.ireturn, 1) := by decide +kernel
theorem dX1_depthOf_0 : decode cX1_depthOf 0 = .ok (.iconst 0, 1) := by decide +kernel
theorem dX1_depthOf_1 : decode cX1_depthOf 1 = .ok (.istore_n 2, 1) := by decide +kernel
theorem dX1_depthOf_2 : decode cX1_depthOf 2 = .ok (.iload_n 1, 1) := by decide +kernel
theorem dX1_depthOf_3 : decode cX1_depthOf 3 = .ok (.istore_n 3, 1) := by decide +kernel
theorem dX1_depthOf_4 : decode cX1_depthOf 4 = .ok (.iconst 0, 1) := by decide +kernel
theorem dX1_depthOf_5 : decode cX1_depthOf 5 = .ok (.istore 4, 2) := by decide +kernel
theorem dX1_depthOf_7 : decode cX1_depthOf 7 = .ok (.iload 4, 2) := by decide +kernel
theorem dX1_depthOf_9 : decode cX1_depthOf 9 = .ok (.iconst 5, 1) := by decide +kernel
theorem dX1_depthOf_10 : decode cX1_depthOf 10 = .ok (.if_icmp .ge 27, 3) := by decide +kernel
theorem dX1_depthOf_13 : decode cX1_depthOf 13 = .ok (.aload_n 0, 1) := by decide +kernel
theorem dX1_depthOf_14 : decode cX1_depthOf 14 = .ok (.iload_n 3, 1) := by decide +kernel
theorem dX1_depthOf_15 : decode cX1_depthOf 15 = .ok (.invokevirtual 53, 3) := by decide +kernel
theorem dX1_depthOf_18 : decode cX1_depthOf 18 = .ok (.ifCond .eq 19, 3) := by decide +kernel
theorem dX1_depthOf_21 : decode cX1_depthOf 21 = .ok (.iinc 2 1, 3) := by decide +kernel
theorem dX1_depthOf_24 : decode cX1_depthOf 24 = .ok (.aload_n 0, 1) := by decide +kernel
theorem dX1_depthOf_25 : decode cX1_depthOf 25 = .ok (.getfield 27, 3) := by decide +kernel
theorem dX1_depthOf_28 : decode cX1_depthOf 28 = .ok (.iload_n 3, 1) := by decide +kernel
theorem dX1_depthOf_29 : decode cX1_depthOf 29 = .ok (.iaload, 1) := by decide +kernel
theorem dX1_depthOf_30 : decode cX1_depthOf 30 = .ok (.istore_n 3, 1) := by decide +kernel
theorem dX1_depthOf_31 : decode cX1_depthOf 31 = .ok (.iinc 4 1, 3) := by decide +kernel
theorem dX1_depthOf_34 : decode cX1_depthOf 34 = .ok (.goto (-27), 3) := by decide +kernel
theorem dX1_depthOf_37 : decode cX1_depthOf 37 = .ok (.iload_n 2, 1) := by decide +kernel
theorem dX1_depthOf_38 : decode cX1_depthOf 38 = .ok (.ireturn, 1) := by decide +kernel
theorem dX1_settableCells_0 : decode cX1_settableCells 0 = .ok (.iconst 0, 1) := by decide +kernel
theorem dX1_settableCells_1 : decode cX1_settableCells 1 = .ok (.istore_n 1, 1) := by decide +kernel
theorem dX1_settableCells_2 : decode cX1_settableCells 2 = .ok (.iconst 0, 1) := by decide +kernel
theorem dX1_settableCells_3 : decode cX1_settableCells 3 = .ok (.istore_n 2, 1) := by decide +kernel
theorem dX1_settableCells_4 : decode cX1_settableCells 4 = .ok (.iload_n 2, 1) := by decide +kernel
theorem dX1_settableCells_5 : decode cX1_settableCells 5 = .ok (.aload_n 0, 1) := by decide +kernel
theorem dX1_settableCells_6 : decode cX1_settableCells 6 = .ok (.getfield 39, 3) := by decide +kernel
theorem dX1_settableCells_9 : decode cX1_settableCells 9 = .ok (.if_icmp .ge 30, 3) := by decide +kernel
theorem dX1_settableCells_12 : decode cX1_settableCells 12 = .ok (.aload_n 0, 1) := by decide +kernel
theorem dX1_settableCells_13 : decode cX1_settableCells 13 = .ok (.getfield 9, 3) := by decide +kernel
theorem dX1_settableCells_16 : decode cX1_settableCells 16 = .ok (.iload_n 2, 1) := by decide +kernel
theorem dX1_settableCells_17 : decode cX1_settableCells 17 = .ok (.iaload, 1) := by decide +kernel
theorem dX1_settableCells_18 : decode cX1_settableCells 18 = .ok (.iconst 1, 1) := by decide +kernel
theorem dX1_settableCells_19 : decode cX1_settableCells 19 = .ok (.if_icmp .ne 14, 3) := by decide +kernel
theorem dX1_settableCells_22 : decode cX1_settableCells 22 = .ok (.iload_n 1, 1) := by decide +kernel
theorem dX1_settableCells_23 : decode cX1_settableCells 23 = .ok (.iconst 1, 1) := by decide +kernel
theorem dX1_settableCells_24 : decode cX1_settableCells 24 = .ok (.aload_n 0, 1) := by decide +kernel
theorem dX1_settableCells_25 : decode cX1_settableCells 25 = .ok (.getfield 15, 3) := by decide +kernel
theorem dX1_settableCells_28 : decode cX1_settableCells 28 = .ok (.iload_n 2, 1) := by decide +kernel
theorem dX1_settableCells_29 : decode cX1_settableCells 29 = .ok (.iaload, 1) := by decide +kernel
theorem dX1_settableCells_30 : decode cX1_settableCells 30 = .ok (.ishl, 1) := by decide +kernel
theorem dX1_settableCells_31 : decode cX1_settableCells 31 = .ok (.ior, 1) := by decide +kernel
theorem dX1_settableCells_32 : decode cX1_settableCells 32 = .ok (.istore_n 1, 1) := by decide +kernel
theorem dX1_settableCells_33 : decode cX1_settableCells 33 = .ok (.iinc 2 1, 3) := by decide +kernel
theorem dX1_settableCells_36 : decode cX1_settableCells 36 = .ok (.goto (-32), 3) := by decide +kernel
theorem dX1_settableCells_39 : decode cX1_settableCells 39 = .ok (.iload_n 1, 1) := by decide +kernel
theorem dX1_settableCells_40 : decode cX1_settableCells 40 = .ok (.ireturn, 1) := by decide +kernel
theorem dX2_init_0 : decode cX2_init 0 = .ok (.aload_n 0, 1) := by decide +kernel
theorem dX2_init_1 : decode cX2_init 1 = .ok (.invokespecial 3, 3) := by decide +kernel
theorem dX2_init_4 : decode cX2_init 4 = .ok (.aload_n 0, 1) := by decide +kernel
theorem dX2_init_5 : decode cX2_init 5 = .ok (.bipush 40, 2) := by decide +kernel
theorem dX2_init_7 : decode cX2_init 7 = .ok (.newarray .int, 2) := by decide +kernel
theorem dX2_init_9 : decode cX2_init 9 = .ok (.putfield 9, 3) := by decide +kernel
theorem dX2_init_12 : decode cX2_init 12 = .ok (.return_, 1) := by decide +kernel
theorem dX2_begin_0 : decode cX2_begin 0 = .ok (.aload_n 0, 1) := by decide +kernel
theorem dX2_begin_1 : decode cX2_begin 1 = .ok (.iconst 0, 1) := by decide +kernel
theorem dX2_begin_2 : decode cX2_begin 2 = .ok (.putfield 15, 3) := by decide +kernel
theorem dX2_begin_5 : decode cX2_begin 5 = .ok (.return_, 1) := by decide +kernel
theorem dX2_add_0 : decode cX2_add 0 = .ok (.aload_n 0, 1) := by decide +kernel
theorem dX2_add_1 : decode cX2_add 1 = .ok (.getfield 15, 3) := by decide +kernel
theorem dX2_add_4 : decode cX2_add 4 = .ok (.iconst 0, 1) := by decide +kernel
theorem dX2_add_5 : decode cX2_add 5 = .ok (.bipush 39, 2) := by decide +kernel
theorem dX2_add_7 : decode cX2_add 7 = .ok (.invokestatic 19, 3) := by decide +kernel
theorem dX2_add_10 : decode cX2_add 10 = .ok (.ifCond .eq 13, 3) := by decide +kernel
theorem dX2_add_13 : decode cX2_add 13 = .ok (.aload_n 0, 1) := by decide +kernel
theorem dX2_add_14 : decode cX2_add 14 = .ok (.getfield 9, 3) := by decide +kernel
theorem dX2_add_17 : decode cX2_add 17 = .ok (.aload_n 0, 1) := by decide +kernel
theorem dX2_add_18 : decode cX2_add 18 = .ok (.getfield 15, 3) := by decide +kernel
theorem dX2_add_21 : decode cX2_add 21 = .ok (.iload_n 1, 1) := by decide +kernel
theorem dX2_add_22 : decode cX2_add 22 = .ok (.iastore, 1) := by decide +kernel
theorem dX2_add_23 : decode cX2_add 23 = .ok (.aload_n 0, 1) := by decide +kernel
theorem dX2_add_24 : decode cX2_add 24 = .ok (.dup, 1) := by decide +kernel
theorem dX2_add_25 : decode cX2_add 25 = .ok (.getfield 15, 3) := by decide +kernel
theorem dX2_add_28 : decode cX2_add 28 = .ok (.iconst 1, 1) := by decide +kernel
theorem dX2_add_29 : decode cX2_add 29 = .ok (.iadd, 1) := by decide +kernel
theorem dX2_add_30 : decode cX2_add 30 = .ok (.putfield 15, 3) := by decide +kernel
theorem dX2_add_33 : decode cX2_add 33 = .ok (.return_, 1) := by decide +kernel
theorem dX2_takeFrom_0 : decode cX2_takeFrom 0 = .ok (.aload_n 0, 1) := by decide +kernel
theorem dX2_takeFrom_1 : decode cX2_takeFrom 1 = .ok (.aload_n 1, 1) := by decide +kernel
theorem dX2_takeFrom_2 : decode cX2_takeFrom 2 = .ok (.getfield 15, 3) := by decide +kernel
theorem dX2_takeFrom_5 : decode cX2_takeFrom 5 = .ok (.putfield 15, 3) := by decide +kernel
theorem dX2_takeFrom_8 : decode cX2_takeFrom 8 = .ok (.aload_n 0, 1) := by decide +kernel
theorem dX2_takeFrom_9 : decode cX2_takeFrom 9 = .ok (.aload_n 1, 1) := by decide +kernel
theorem dX2_takeFrom_10 : decode cX2_takeFrom 10 = .ok (.getfield 23, 3) := by decide +kernel
theorem dX2_takeFrom_13 : decode cX2_takeFrom 13 = .ok (.putfield 23, 3) := by decide +kernel
theorem dX2_takeFrom_16 : decode cX2_takeFrom 16 = .ok (.aload_n 1, 1) := by decide +kernel
theorem dX2_takeFrom_17 : decode cX2_takeFrom 17 = .ok (.getfield 9, 3) := by decide +kernel
theorem dX2_takeFrom_20 : decode cX2_takeFrom 20 = .ok (.iconst 0, 1) := by decide +kernel
theorem dX2_takeFrom_21 : decode cX2_takeFrom 21 = .ok (.aload_n 0, 1) := by decide +kernel
theorem dX2_takeFrom_22 : decode cX2_takeFrom 22 = .ok (.getfield 9, 3) := by decide +kernel
theorem dX2_takeFrom_25 : decode cX2_takeFrom 25 = .ok (.iconst 0, 1) := by decide +kernel
theorem dX2_takeFrom_26 : decode cX2_takeFrom 26 = .ok (.bipush 40, 2) := by decide +kernel
theorem dX2_takeFrom_28 : decode cX2_takeFrom 28 = .ok (.invokestatic 27, 3) := by decide +kernel
theorem dX2_takeFrom_31 : decode cX2_takeFrom 31 = .ok (.return_, 1) := by decide +kernel
theorem dX2_valueAt_0 : decode cX2_valueAt 0 = .ok (.iload_n 1, 1) := by decide +kernel
theorem dX2_valueAt_1 : decode cX2_valueAt 1 = .ok (.iconst 0, 1) := by decide +kernel
theorem dX2_valueAt_2 : decode cX2_valueAt 2 = .ok (.aload_n 0, 1) := by decide +kernel
theorem dX2_valueAt_3 : decode cX2_valueAt 3 = .ok (.getfield 15, 3) := by decide +kernel
theorem dX2_valueAt_6 : decode cX2_valueAt 6 = .ok (.bipush 40, 2) := by decide +kernel
theorem dX2_valueAt_8 : decode cX2_valueAt 8 = .ok (.invokestatic 33, 3) := by decide +kernel
theorem dX2_valueAt_11 : decode cX2_valueAt 11 = .ok (.iconst 1, 1) := by decide +kernel
theorem dX2_valueAt_12 : decode cX2_valueAt 12 = .ok (.isub, 1) := by decide +kernel
theorem dX2_valueAt_13 : decode cX2_valueAt 13 = .ok (.invokestatic 19, 3) := by decide +kernel
theorem dX2_valueAt_16 : decode cX2_valueAt 16 = .ok (.ifCond .eq 12, 3) := by decide +kernel
theorem dX2_valueAt_19 : decode cX2_valueAt 19 = .ok (.aload_n 0, 1) := by decide +kernel
theorem dX2_valueAt_20 : decode cX2_valueAt 20 = .ok (.getfield 9, 3) := by decide +kernel
theorem dX2_valueAt_23 : decode cX2_valueAt 23 = .ok (.iload_n 1, 1) := by decide +kernel
theorem dX2_valueAt_24 : decode cX2_valueAt 24 = .ok (.iaload, 1) := by decide +kernel
theorem dX2_valueAt_25 : decode cX2_valueAt 25 = .ok (.goto 6, 3) := by decide +kernel
theorem dX2_valueAt_28 : decode cX2_valueAt 28 = .ok (.sipush (-10009), 3) := by decide +kernel
theorem dX2_valueAt_31 : decode cX2_valueAt 31 = .ok (.ireturn, 1) := by decide +kernel
theorem dX2_firstDifference_0 : decode cX2_firstDifference 0 = .ok (.iconst 0, 1) := by decide +kernel
theorem dX2_firstDifference_1 : decode cX2_firstDifference 1 = .ok (.istore_n 2, 1) := by decide +kernel
theorem dX2_firstDifference_2 : decode cX2_firstDifference 2 = .ok (.iload_n 2, 1) := by decide +kernel
theorem dX2_firstDifference_3 : decode cX2_firstDifference 3 = .ok (.bipush 40, 2) := by decide +kernel
theorem dX2_firstDifference_5 : decode cX2_firstDifference 5 = .ok (.if_icmp .ge 24, 3) := by decide +kernel
theorem dX2_firstDifference_8 : decode cX2_firstDifference 8 = .ok (.aload_n 0, 1) := by decide +kernel
theorem dX2_firstDifference_9 : decode cX2_firstDifference 9 = .ok (.iload_n 2, 1) := by decide +kernel
theorem dX2_firstDifference_10 : decode cX2_firstDifference 10 = .ok (.invokevirtual 39, 3) := by decide +kernel
theorem dX2_firstDifference_13 : decode cX2_firstDifference 13 = .ok (.aload_n 1, 1) := by decide +kernel
theorem dX2_firstDifference_14 : decode cX2_firstDifference 14 = .ok (.iload_n 2, 1) := by decide +kernel
theorem dX2_firstDifference_15 : decode cX2_firstDifference 15 = .ok (.invokevirtual 39, 3) := by decide +kernel
theorem dX2_firstDifference_18 : decode cX2_firstDifference 18 = .ok (.if_icmp .eq 5, 3) := by decide +kernel
theorem dX2_firstDifference_21 : decode cX2_firstDifference 21 = .ok (.iload_n 2, 1) := by decide +kernel
theorem dX2_firstDifference_22 : decode cX2_firstDifference 22 = .ok (.ireturn, 1) := by decide +kernel
theorem dX2_firstDifference_23 : decode cX2_firstDifference 23 = .ok (.iinc 2 1, 3) := by decide +kernel
theorem dX2_firstDifference_26 : decode cX2_firstDifference 26 = .ok (.goto (-24), 3) := by decide +kernel
theorem dX2_firstDifference_29 : decode cX2_firstDifference 29 = .ok (.sipush (-10009), 3) := by decide +kernel
theorem dX2_firstDifference_32 : decode cX2_firstDifference 32 = .ok (.ireturn, 1) := by decide +kernel
theorem dX2_hasValuesOf_0 : decode cX2_hasValuesOf 0 = .ok (.aload_n 0, 1) := by decide +kernel
theorem dX2_hasValuesOf_1 : decode cX2_hasValuesOf 1 = .ok (.getfield 15, 3) := by decide +kernel
theorem dX2_hasValuesOf_4 : decode cX2_hasValuesOf 4 = .ok (.aload_n 1, 1) := by decide +kernel
theorem dX2_hasValuesOf_5 : decode cX2_hasValuesOf 5 = .ok (.getfield 15, 3) := by decide +kernel
theorem dX2_hasValuesOf_8 : decode cX2_hasValuesOf 8 = .ok (.if_icmp .ne 18, 3) := by decide +kernel
theorem dX2_hasValuesOf_11 : decode cX2_hasValuesOf 11 = .ok (.aload_n 0, 1) := by decide +kernel
theorem dX2_hasValuesOf_12 : decode cX2_hasValuesOf 12 = .ok (.aload_n 1, 1) := by decide +kernel
theorem dX2_hasValuesOf_13 : decode cX2_hasValuesOf 13 = .ok (.invokevirtual 43, 3) := by decide +kernel
theorem dX2_hasValuesOf_16 : decode cX2_hasValuesOf 16 = .ok (.sipush (-10009), 3) := by decide +kernel
theorem dX2_hasValuesOf_19 : decode cX2_hasValuesOf 19 = .ok (.if_icmp .ne 7, 3) := by decide +kernel
theorem dX2_hasValuesOf_22 : decode cX2_hasValuesOf 22 = .ok (.iconst 1, 1) := by decide +kernel
theorem dX2_hasValuesOf_23 : decode cX2_hasValuesOf 23 = .ok (.goto 4, 3) := by decide +kernel
theorem dX2_hasValuesOf_26 : decode cX2_hasValuesOf 26 = .ok (.iconst 0, 1) := by decide +kernel
theorem dX2_hasValuesOf_27 : decode cX2_hasValuesOf 27 = .ok (.ireturn, 1) := by decide +kernel
theorem dX3_init_0 : decode cX3_init 0 = .ok (.aload_n 0, 1) := by decide +kernel
theorem dX3_init_1 : decode cX3_init 1 = .ok (.invokespecial 3, 3) := by decide +kernel
theorem dX3_init_4 : decode cX3_init 4 = .ok (.aload_n 0, 1) := by decide +kernel
theorem dX3_init_5 : decode cX3_init 5 = .ok (.bipush 6, 2) := by decide +kernel
theorem dX3_init_7 : decode cX3_init 7 = .ok (.newarray .int, 2) := by decide +kernel
theorem dX3_init_9 : decode cX3_init 9 = .ok (.putfield 9, 3) := by decide +kernel
theorem dX3_init_12 : decode cX3_init 12 = .ok (.aload_n 0, 1) := by decide +kernel
theorem dX3_init_13 : decode cX3_init 13 = .ok (.bipush 6, 2) := by decide +kernel
theorem dX3_init_15 : decode cX3_init 15 = .ok (.newarray .int, 2) := by decide +kernel
theorem dX3_init_17 : decode cX3_init 17 = .ok (.putfield 15, 3) := by decide +kernel
theorem dX3_init_20 : decode cX3_init 20 = .ok (.aload_n 0, 1) := by decide +kernel
theorem dX3_init_21 : decode cX3_init 21 = .ok (.aload_n 1, 1) := by decide +kernel
theorem dX3_init_22 : decode cX3_init 22 = .ok (.putfield 18, 3) := by decide +kernel
theorem dX3_init_25 : decode cX3_init 25 = .ok (.aload_n 0, 1) := by decide +kernel
theorem dX3_init_26 : decode cX3_init 26 = .ok (.aload_n 2, 1) := by decide +kernel
theorem dX3_init_27 : decode cX3_init 27 = .ok (.putfield 22, 3) := by decide +kernel
theorem dX3_init_30 : decode cX3_init 30 = .ok (.aload_n 0, 1) := by decide +kernel
theorem dX3_init_31 : decode cX3_init 31 = .ok (.getfield 9, 3) := by decide +kernel
theorem dX3_init_34 : decode cX3_init 34 = .ok (.iconst 0, 1) := by decide +kernel
theorem dX3_init_35 : decode cX3_init 35 = .ok (.iconst (-1), 1) := by decide +kernel
theorem dX3_init_36 : decode cX3_init 36 = .ok (.iastore, 1) := by decide +kernel
theorem dX3_init_37 : decode cX3_init 37 = .ok (.aload_n 0, 1) := by decide +kernel
theorem dX3_init_38 : decode cX3_init 38 = .ok (.getfield 15, 3) := by decide +kernel
theorem dX3_init_41 : decode cX3_init 41 = .ok (.iconst 0, 1) := by decide +kernel
theorem dX3_init_42 : decode cX3_init 42 = .ok (.iconst 0, 1) := by decide +kernel
theorem dX3_init_43 : decode cX3_init 43 = .ok (.iastore, 1) := by decide +kernel
theorem dX3_init_44 : decode cX3_init 44 = .ok (.return_, 1) := by decide +kernel
theorem dX3_readDraft_0 : decode cX3_readDraft 0 = .ok (.aload_n 0, 1) := by decide +kernel
theorem dX3_readDraft_1 : decode cX3_readDraft 1 = .ok (.getfield 22, 3) := by decide +kernel
theorem dX3_readDraft_4 : decode cX3_readDraft 4 = .ok (.iconst 0, 1) := by decide +kernel
theorem dX3_readDraft_5 : decode cX3_readDraft 5 = .ok (.putfield 26, 3) := by decide +kernel
theorem dX3_readDraft_8 : decode cX3_readDraft 8 = .ok (.aload_n 0, 1) := by decide +kernel
theorem dX3_readDraft_9 : decode cX3_readDraft 9 = .ok (.iconst 0, 1) := by decide +kernel
theorem dX3_readDraft_10 : decode cX3_readDraft 10 = .ok (.putfield 32, 3) := by decide +kernel
theorem dX3_readDraft_13 : decode cX3_readDraft 13 = .ok (.aload_n 0, 1) := by decide +kernel
theorem dX3_readDraft_14 : decode cX3_readDraft 14 = .ok (.iconst 0, 1) := by decide +kernel
theorem dX3_readDraft_15 : decode cX3_readDraft 15 = .ok (.putfield 35, 3) := by decide +kernel
theorem dX3_readDraft_18 : decode cX3_readDraft 18 = .ok (.iconst 0, 1) := by decide +kernel
theorem dX3_readDraft_19 : decode cX3_readDraft 19 = .ok (.istore_n 1, 1) := by decide +kernel
theorem dX3_readDraft_20 : decode cX3_readDraft 20 = .ok (.iload_n 1, 1) := by decide +kernel
theorem dX3_readDraft_21 : decode cX3_readDraft 21 = .ok (.bipush 120, 2) := by decide +kernel
theorem dX3_readDraft_23 : decode cX3_readDraft 23 = .ok (.if_icmp .gt 50, 3) := by decide +kernel
theorem dX3_readDraft_26 : decode cX3_readDraft 26 = .ok (.aload_n 0, 1) := by decide +kernel
theorem dX3_readDraft_27 : decode cX3_readDraft 27 = .ok (.invokevirtual 38, 3) := by decide +kernel
theorem dX3_readDraft_30 : decode cX3_readDraft 30 = .ok (.istore_n 2, 1) := by decide +kernel
theorem dX3_readDraft_31 : decode cX3_readDraft 31 = .ok (.iload_n 2, 1) := by decide +kernel
theorem dX3_readDraft_32 : decode cX3_readDraft 32 = .ok (.aload_n 0, 1) := by decide +kernel
theorem dX3_readDraft_33 : decode cX3_readDraft 33 = .ok (.invokevirtual 42, 3) := by decide +kernel
theorem dX3_readDraft_36 : decode cX3_readDraft 36 = .ok (.if_icmp .eq 13, 3) := by decide +kernel
theorem dX3_readDraft_39 : decode cX3_readDraft 39 = .ok (.aload_n 0, 1) := by decide +kernel
theorem dX3_readDraft_40 : decode cX3_readDraft 40 = .ok (.iload_n 2, 1) := by decide +kernel
theorem dX3_readDraft_41 : decode cX3_readDraft 41 = .ok (.invokevirtual 45, 3) := by decide +kernel
theorem dX3_readDraft_44 : decode cX3_readDraft 44 = .ok (.ifCond .ne 23, 3) := by decide +kernel
theorem dX3_readDraft_47 : decode cX3_readDraft 47 = .ok (.iconst 0, 1) := by decide +kernel
theorem dX3_readDraft_48 : decode cX3_readDraft 48 = .ok (.ireturn, 1) := by decide +kernel
theorem dX3_readDraft_49 : decode cX3_readDraft 49 = .ok (.iload_n 2, 1) := by decide +kernel
theorem dX3_readDraft_50 : decode cX3_readDraft 50 = .ok (.ifCond .ne 12, 3) := by decide +kernel
theorem dX3_readDraft_53 : decode cX3_readDraft 53 = .ok (.aload_n 0, 1) := by decide +kernel
theorem dX3_readDraft_54 : decode cX3_readDraft 54 = .ok (.getfield 22, 3) := by decide +kernel
theorem dX3_readDraft_57 : decode cX3_readDraft 57 = .ok (.invokevirtual 49, 3) := by decide +kernel
theorem dX3_readDraft_60 : decode cX3_readDraft 60 = .ok (.iconst 1, 1) := by decide +kernel
theorem dX3_readDraft_61 : decode cX3_readDraft 61 = .ok (.ireturn, 1) := by decide +kernel
theorem dX3_readDraft_62 : decode cX3_readDraft 62 = .ok (.aload_n 0, 1) := by decide +kernel
theorem dX3_readDraft_63 : decode cX3_readDraft 63 = .ok (.iload_n 2, 1) := by decide +kernel
theorem dX3_readDraft_64 : decode cX3_readDraft 64 = .ok (.invokevirtual 52, 3) := by decide +kernel
theorem dX3_readDraft_67 : decode cX3_readDraft 67 = .ok (.iinc 1 1, 3) := by decide +kernel
theorem dX3_readDraft_70 : decode cX3_readDraft 70 = .ok (.goto (-50), 3) := by decide +kernel
theorem dX3_readDraft_73 : decode cX3_readDraft 73 = .ok (.iconst 0, 1) := by decide +kernel
theorem dX3_readDraft_74 : decode cX3_readDraft 74 = .ok (.ireturn, 1) := by decide +kernel
theorem dX3_readStatement_0 : decode cX3_readStatement 0 = .ok (.aload_n 0, 1) := by decide +kernel
theorem dX3_readStatement_1 : decode cX3_readStatement 1 = .ok (.getfield 22, 3) := by decide +kernel
theorem dX3_readStatement_4 : decode cX3_readStatement 4 = .ok (.invokevirtual 56, 3) := by decide +kernel
theorem dX3_readStatement_7 : decode cX3_readStatement 7 = .ok (.ifCond .eq 5, 3) := by decide +kernel
theorem dX3_readStatement_10 : decode cX3_readStatement 10 = .ok (.iconst 0, 1) := by decide +kernel
theorem dX3_readStatement_11 : decode cX3_readStatement 11 = .ok (.ireturn, 1) := by decide +kernel
theorem dX3_readStatement_12 : decode cX3_readStatement 12 = .ok (.iload_n 1, 1) := by decide +kernel
theorem dX3_readStatement_13 : decode cX3_readStatement 13 = .ok (.lookupswitch 105 #[(33, 43), (35, 48), (63, 97), (91, 89)], 43) := by decide +kernel
theorem dX3_readStatement_56 : decode cX3_readStatement 56 = .ok (.aload_n 0, 1) := by decide +kernel
theorem dX3_readStatement_57 : decode cX3_readStatement 57 = .ok (.invokevirtual 60, 3) := by decide +kernel
theorem dX3_readStatement_60 : decode cX3_readStatement 60 = .ok (.ireturn, 1) := by decide +kernel
theorem dX3_readStatement_61 : decode cX3_readStatement 61 = .ok (.aload_n 0, 1) := by decide +kernel
theorem dX3_readStatement_62 : decode cX3_readStatement 62 = .ok (.dup, 1) := by decide +kernel
theorem dX3_readStatement_63 : decode cX3_readStatement 63 = .ok (.getfield 35, 3) := by decide +kernel
theorem dX3_readStatement_66 : decode cX3_readStatement 66 = .ok (.iconst 1, 1) := by decide +kernel
theorem dX3_readStatement_67 : decode cX3_readStatement 67 = .ok (.iadd, 1) := by decide +kernel
theorem dX3_readStatement_68 : decode cX3_readStatement 68 = .ok (.putfield 35, 3) := by decide +kernel
theorem dX3_readStatement_71 : decode cX3_readStatement 71 = .ok (.aload_n 0, 1) := by decide +kernel
theorem dX3_readStatement_72 : decode cX3_readStatement 72 = .ok (.bipush 59, 2) := by decide +kernel
theorem dX3_readStatement_74 : decode cX3_readStatement 74 = .ok (.invokevirtual 63, 3) := by decide +kernel
theorem dX3_readStatement_77 : decode cX3_readStatement 77 = .ok (.ifCond .eq 23, 3) := by decide +kernel
theorem dX3_readStatement_80 : decode cX3_readStatement 80 = .ok (.aload_n 0, 1) := by decide +kernel
theorem dX3_readStatement_81 : decode cX3_readStatement 81 = .ok (.getfield 22, 3) := by decide +kernel
theorem dX3_readStatement_84 : decode cX3_readStatement 84 = .ok (.iconst 3, 1) := by decide +kernel
theorem dX3_readStatement_85 : decode cX3_readStatement 85 = .ok (.iconst 0, 1) := by decide +kernel
theorem dX3_readStatement_86 : decode cX3_readStatement 86 = .ok (.aload_n 0, 1) := by decide +kernel
theorem dX3_readStatement_87 : decode cX3_readStatement 87 = .ok (.invokevirtual 66, 3) := by decide +kernel
theorem dX3_readStatement_90 : decode cX3_readStatement 90 = .ok (.invokevirtual 69, 3) := by decide +kernel
theorem dX3_readStatement_93 : decode cX3_readStatement 93 = .ok (.ifCond .eq 7, 3) := by decide +kernel
theorem dX3_readStatement_96 : decode cX3_readStatement 96 = .ok (.iconst 1, 1) := by decide +kernel
theorem dX3_readStatement_97 : decode cX3_readStatement 97 = .ok (.goto 4, 3) := by decide +kernel
theorem dX3_readStatement_100 : decode cX3_readStatement 100 = .ok (.iconst 0, 1) := by decide +kernel
theorem dX3_readStatement_101 : decode cX3_readStatement 101 = .ok (.ireturn, 1) := by decide +kernel
theorem dX3_readStatement_102 : decode cX3_readStatement 102 = .ok (.aload_n 0, 1) := by decide +kernel
theorem dX3_readStatement_103 : decode cX3_readStatement 103 = .ok (.iconst 4, 1) := by decide +kernel
theorem dX3_readStatement_104 : decode cX3_readStatement 104 = .ok (.bipush 93, 2) := by decide +kernel
theorem dX3_readStatement_106 : decode cX3_readStatement 106 = .ok (.invokevirtual 73, 3) := by decide +kernel
theorem dX3_readStatement_109 : decode cX3_readStatement 109 = .ok (.ireturn, 1) := by decide +kernel
theorem dX3_readStatement_110 : decode cX3_readStatement 110 = .ok (.aload_n 0, 1) := by decide +kernel
theorem dX3_readStatement_111 : decode cX3_readStatement 111 = .ok (.iconst 5, 1) := by decide +kernel
theorem dX3_readStatement_112 : decode cX3_readStatement 112 = .ok (.bipush 58, 2) := by decide +kernel
theorem dX3_readStatement_114 : decode cX3_readStatement 114 = .ok (.invokevirtual 73, 3) := by decide +kernel
theorem dX3_readStatement_117 : decode cX3_readStatement 117 = .ok (.ireturn, 1) := by decide +kernel
theorem dX3_readStatement_118 : decode cX3_readStatement 118 = .ok (.aload_n 0, 1) := by decide +kernel
theorem dX3_readStatement_119 : decode cX3_readStatement 119 = .ok (.invokevirtual 77, 3) := by decide +kernel
theorem dX3_readStatement_122 : decode cX3_readStatement 122 = .ok (.ireturn, 1) := by decide +kernel
theorem dX3_readTell_0 : decode cX3_readTell 0 = .ok (.aload_n 0, 1) := by decide +kernel
theorem dX3_readTell_1 : decode cX3_readTell 1 = .ok (.dup, 1) := by decide +kernel
theorem dX3_readTell_2 : decode cX3_readTell 2 = .ok (.getfield 35, 3) := by decide +kernel
theorem dX3_readTell_5 : decode cX3_readTell 5 = .ok (.iconst 1, 1) := by decide +kernel
theorem dX3_readTell_6 : decode cX3_readTell 6 = .ok (.iadd, 1) := by decide +kernel
theorem dX3_readTell_7 : decode cX3_readTell 7 = .ok (.putfield 35, 3) := by decide +kernel
theorem dX3_readTell_10 : decode cX3_readTell 10 = .ok (.aload_n 0, 1) := by decide +kernel
theorem dX3_readTell_11 : decode cX3_readTell 11 = .ok (.invokevirtual 80, 3) := by decide +kernel
theorem dX3_readTell_14 : decode cX3_readTell 14 = .ok (.istore_n 1, 1) := by decide +kernel
theorem dX3_readTell_15 : decode cX3_readTell 15 = .ok (.iload_n 1, 1) := by decide +kernel
theorem dX3_readTell_16 : decode cX3_readTell 16 = .ok (.iconst (-1), 1) := by decide +kernel
theorem dX3_readTell_17 : decode cX3_readTell 17 = .ok (.if_icmp .eq 32, 3) := by decide +kernel
theorem dX3_readTell_20 : decode cX3_readTell 20 = .ok (.aload_n 0, 1) := by decide +kernel
theorem dX3_readTell_21 : decode cX3_readTell 21 = .ok (.bipush 59, 2) := by decide +kernel
theorem dX3_readTell_23 : decode cX3_readTell 23 = .ok (.invokevirtual 63, 3) := by decide +kernel
theorem dX3_readTell_26 : decode cX3_readTell 26 = .ok (.ifCond .eq 23, 3) := by decide +kernel
theorem dX3_readTell_29 : decode cX3_readTell 29 = .ok (.aload_n 0, 1) := by decide +kernel
theorem dX3_readTell_30 : decode cX3_readTell 30 = .ok (.getfield 22, 3) := by decide +kernel
theorem dX3_readTell_33 : decode cX3_readTell 33 = .ok (.iconst 2, 1) := by decide +kernel
theorem dX3_readTell_34 : decode cX3_readTell 34 = .ok (.iload_n 1, 1) := by decide +kernel
theorem dX3_readTell_35 : decode cX3_readTell 35 = .ok (.aload_n 0, 1) := by decide +kernel
theorem dX3_readTell_36 : decode cX3_readTell 36 = .ok (.invokevirtual 66, 3) := by decide +kernel
theorem dX3_readTell_39 : decode cX3_readTell 39 = .ok (.invokevirtual 69, 3) := by decide +kernel
theorem dX3_readTell_42 : decode cX3_readTell 42 = .ok (.ifCond .eq 7, 3) := by decide +kernel
theorem dX3_readTell_45 : decode cX3_readTell 45 = .ok (.iconst 1, 1) := by decide +kernel
theorem dX3_readTell_46 : decode cX3_readTell 46 = .ok (.goto 4, 3) := by decide +kernel
theorem dX3_readTell_49 : decode cX3_readTell 49 = .ok (.iconst 0, 1) := by decide +kernel
theorem dX3_readTell_50 : decode cX3_readTell 50 = .ok (.ireturn, 1) := by decide +kernel
theorem dX3_readSetting_0 : decode cX3_readSetting 0 = .ok (.aload_n 0, 1) := by decide +kernel
theorem dX3_readSetting_1 : decode cX3_readSetting 1 = .ok (.invokevirtual 80, 3) := by decide +kernel
theorem dX3_readSetting_4 : decode cX3_readSetting 4 = .ok (.istore_n 1, 1) := by decide +kernel
theorem dX3_readSetting_5 : decode cX3_readSetting 5 = .ok (.iload_n 1, 1) := by decide +kernel
theorem dX3_readSetting_6 : decode cX3_readSetting 6 = .ok (.iconst (-1), 1) := by decide +kernel
theorem dX3_readSetting_7 : decode cX3_readSetting 7 = .ok (.if_icmp .eq 12, 3) := by decide +kernel
theorem dX3_readSetting_10 : decode cX3_readSetting 10 = .ok (.aload_n 0, 1) := by decide +kernel
theorem dX3_readSetting_11 : decode cX3_readSetting 11 = .ok (.bipush 61, 2) := by decide +kernel
theorem dX3_readSetting_13 : decode cX3_readSetting 13 = .ok (.invokevirtual 63, 3) := by decide +kernel
theorem dX3_readSetting_16 : decode cX3_readSetting 16 = .ok (.ifCond .ne 5, 3) := by decide +kernel
theorem dX3_readSetting_19 : decode cX3_readSetting 19 = .ok (.iconst 0, 1) := by decide +kernel
theorem dX3_readSetting_20 : decode cX3_readSetting 20 = .ok (.ireturn, 1) := by decide +kernel
theorem dX3_readSetting_21 : decode cX3_readSetting 21 = .ok (.aload_n 0, 1) := by decide +kernel
theorem dX3_readSetting_22 : decode cX3_readSetting 22 = .ok (.invokevirtual 83, 3) := by decide +kernel
theorem dX3_readSetting_25 : decode cX3_readSetting 25 = .ok (.istore_n 2, 1) := by decide +kernel
theorem dX3_readSetting_26 : decode cX3_readSetting 26 = .ok (.iload_n 2, 1) := by decide +kernel
theorem dX3_readSetting_27 : decode cX3_readSetting 27 = .ok (.iconst (-1), 1) := by decide +kernel
theorem dX3_readSetting_28 : decode cX3_readSetting 28 = .ok (.if_icmp .ne 5, 3) := by decide +kernel
theorem dX3_readSetting_31 : decode cX3_readSetting 31 = .ok (.iconst 0, 1) := by decide +kernel
theorem dX3_readSetting_32 : decode cX3_readSetting 32 = .ok (.ireturn, 1) := by decide +kernel
theorem dX3_readSetting_33 : decode cX3_readSetting 33 = .ok (.aload_n 0, 1) := by decide +kernel
theorem dX3_readSetting_34 : decode cX3_readSetting 34 = .ok (.invokevirtual 86, 3) := by decide +kernel
theorem dX3_readSetting_37 : decode cX3_readSetting 37 = .ok (.istore_n 3, 1) := by decide +kernel
theorem dX3_readSetting_38 : decode cX3_readSetting 38 = .ok (.iload_n 3, 1) := by decide +kernel
theorem dX3_readSetting_39 : decode cX3_readSetting 39 = .ok (.ifCond .ne 7, 3) := by decide +kernel
theorem dX3_readSetting_42 : decode cX3_readSetting 42 = .ok (.iconst 0, 1) := by decide +kernel
theorem dX3_readSetting_43 : decode cX3_readSetting 43 = .ok (.goto 7, 3) := by decide +kernel
theorem dX3_readSetting_46 : decode cX3_readSetting 46 = .ok (.aload_n 0, 1) := by decide +kernel
theorem dX3_readSetting_47 : decode cX3_readSetting 47 = .ok (.invokevirtual 83, 3) := by decide +kernel
theorem dX3_readSetting_50 : decode cX3_readSetting 50 = .ok (.istore 4, 2) := by decide +kernel
theorem dX3_readSetting_52 : decode cX3_readSetting 52 = .ok (.iload 4, 2) := by decide +kernel
theorem dX3_readSetting_54 : decode cX3_readSetting 54 = .ok (.iconst (-1), 1) := by decide +kernel
theorem dX3_readSetting_55 : decode cX3_readSetting 55 = .ok (.if_icmp .eq 28, 3) := by decide +kernel
theorem dX3_readSetting_58 : decode cX3_readSetting 58 = .ok (.aload_n 0, 1) := by decide +kernel
theorem dX3_readSetting_59 : decode cX3_readSetting 59 = .ok (.bipush 59, 2) := by decide +kernel
theorem dX3_readSetting_61 : decode cX3_readSetting 61 = .ok (.invokevirtual 63, 3) := by decide +kernel
theorem dX3_readSetting_64 : decode cX3_readSetting 64 = .ok (.ifCond .eq 19, 3) := by decide +kernel
theorem dX3_readSetting_67 : decode cX3_readSetting 67 = .ok (.aload_n 0, 1) := by decide +kernel
theorem dX3_readSetting_68 : decode cX3_readSetting 68 = .ok (.getfield 22, 3) := by decide +kernel
theorem dX3_readSetting_71 : decode cX3_readSetting 71 = .ok (.iconst 1, 1) := by decide +kernel
theorem dX3_readSetting_72 : decode cX3_readSetting 72 = .ok (.iload_n 1, 1) := by decide +kernel
theorem dX3_readSetting_73 : decode cX3_readSetting 73 = .ok (.aload_n 0, 1) := by decide +kernel
theorem dX3_readSetting_74 : decode cX3_readSetting 74 = .ok (.invokevirtual 66, 3) := by decide +kernel
theorem dX3_readSetting_77 : decode cX3_readSetting 77 = .ok (.invokevirtual 69, 3) := by decide +kernel
theorem dX3_readSetting_80 : decode cX3_readSetting 80 = .ok (.ifCond .ne 5, 3) := by decide +kernel
theorem dX3_readSetting_83 : decode cX3_readSetting 83 = .ok (.iconst 0, 1) := by decide +kernel
theorem dX3_readSetting_84 : decode cX3_readSetting 84 = .ok (.ireturn, 1) := by decide +kernel
theorem dX3_readSetting_85 : decode cX3_readSetting 85 = .ok (.aload_n 0, 1) := by decide +kernel
theorem dX3_readSetting_86 : decode cX3_readSetting 86 = .ok (.getfield 22, 3) := by decide +kernel
theorem dX3_readSetting_89 : decode cX3_readSetting 89 = .ok (.iload_n 2, 1) := by decide +kernel
theorem dX3_readSetting_90 : decode cX3_readSetting 90 = .ok (.iload_n 3, 1) := by decide +kernel
theorem dX3_readSetting_91 : decode cX3_readSetting 91 = .ok (.iload 4, 2) := by decide +kernel
theorem dX3_readSetting_93 : decode cX3_readSetting 93 = .ok (.invokevirtual 89, 3) := by decide +kernel
theorem dX3_readSetting_96 : decode cX3_readSetting 96 = .ok (.iconst 1, 1) := by decide +kernel
theorem dX3_readSetting_97 : decode cX3_readSetting 97 = .ok (.ireturn, 1) := by decide +kernel
theorem dX3_readOpening_0 : decode cX3_readOpening 0 = .ok (.aload_n 0, 1) := by decide +kernel
theorem dX3_readOpening_1 : decode cX3_readOpening 1 = .ok (.getfield 32, 3) := by decide +kernel
theorem dX3_readOpening_4 : decode cX3_readOpening 4 = .ok (.iconst 0, 1) := by decide +kernel
theorem dX3_readOpening_5 : decode cX3_readOpening 5 = .ok (.iconst 4, 1) := by decide +kernel
theorem dX3_readOpening_6 : decode cX3_readOpening 6 = .ok (.invokestatic 93, 3) := by decide +kernel
theorem dX3_readOpening_9 : decode cX3_readOpening 9 = .ok (.ifCond .ne 5, 3) := by decide +kernel
theorem dX3_readOpening_12 : decode cX3_readOpening 12 = .ok (.iconst 0, 1) := by decide +kernel
theorem dX3_readOpening_13 : decode cX3_readOpening 13 = .ok (.ireturn, 1) := by decide +kernel
theorem dX3_readOpening_14 : decode cX3_readOpening 14 = .ok (.aload_n 0, 1) := by decide +kernel
theorem dX3_readOpening_15 : decode cX3_readOpening 15 = .ok (.dup, 1) := by decide +kernel
theorem dX3_readOpening_16 : decode cX3_readOpening 16 = .ok (.getfield 35, 3) := by decide +kernel
theorem dX3_readOpening_19 : decode cX3_readOpening 19 = .ok (.iconst 1, 1) := by decide +kernel
theorem dX3_readOpening_20 : decode cX3_readOpening 20 = .ok (.iadd, 1) := by decide +kernel
theorem dX3_readOpening_21 : decode cX3_readOpening 21 = .ok (.putfield 35, 3) := by decide +kernel
theorem dX3_readOpening_24 : decode cX3_readOpening 24 = .ok (.aload_n 0, 1) := by decide +kernel
theorem dX3_readOpening_25 : decode cX3_readOpening 25 = .ok (.invokevirtual 80, 3) := by decide +kernel
theorem dX3_readOpening_28 : decode cX3_readOpening 28 = .ok (.istore_n 3, 1) := by decide +kernel
theorem dX3_readOpening_29 : decode cX3_readOpening 29 = .ok (.iload_n 3, 1) := by decide +kernel
theorem dX3_readOpening_30 : decode cX3_readOpening 30 = .ok (.iconst (-1), 1) := by decide +kernel
theorem dX3_readOpening_31 : decode cX3_readOpening 31 = .ok (.if_icmp .eq 19, 3) := by decide +kernel
theorem dX3_readOpening_34 : decode cX3_readOpening 34 = .ok (.aload_n 0, 1) := by decide +kernel
theorem dX3_readOpening_35 : decode cX3_readOpening 35 = .ok (.getfield 22, 3) := by decide +kernel
theorem dX3_readOpening_38 : decode cX3_readOpening 38 = .ok (.iload_n 1, 1) := by decide +kernel
theorem dX3_readOpening_39 : decode cX3_readOpening 39 = .ok (.iload_n 3, 1) := by decide +kernel
theorem dX3_readOpening_40 : decode cX3_readOpening 40 = .ok (.aload_n 0, 1) := by decide +kernel
theorem dX3_readOpening_41 : decode cX3_readOpening 41 = .ok (.invokevirtual 66, 3) := by decide +kernel
theorem dX3_readOpening_44 : decode cX3_readOpening 44 = .ok (.invokevirtual 69, 3) := by decide +kernel
theorem dX3_readOpening_47 : decode cX3_readOpening 47 = .ok (.ifCond .ne 5, 3) := by decide +kernel
theorem dX3_readOpening_50 : decode cX3_readOpening 50 = .ok (.iconst 0, 1) := by decide +kernel
theorem dX3_readOpening_51 : decode cX3_readOpening 51 = .ok (.ireturn, 1) := by decide +kernel
theorem dX3_readOpening_52 : decode cX3_readOpening 52 = .ok (.aload_n 0, 1) := by decide +kernel
theorem dX3_readOpening_53 : decode cX3_readOpening 53 = .ok (.dup, 1) := by decide +kernel
theorem dX3_readOpening_54 : decode cX3_readOpening 54 = .ok (.getfield 32, 3) := by decide +kernel
theorem dX3_readOpening_57 : decode cX3_readOpening 57 = .ok (.iconst 1, 1) := by decide +kernel
theorem dX3_readOpening_58 : decode cX3_readOpening 58 = .ok (.iadd, 1) := by decide +kernel
theorem dX3_readOpening_59 : decode cX3_readOpening 59 = .ok (.putfield 32, 3) := by decide +kernel
theorem dX3_readOpening_62 : decode cX3_readOpening 62 = .ok (.aload_n 0, 1) := by decide +kernel
theorem dX3_readOpening_63 : decode cX3_readOpening 63 = .ok (.getfield 9, 3) := by decide +kernel
theorem dX3_readOpening_66 : decode cX3_readOpening 66 = .ok (.aload_n 0, 1) := by decide +kernel
theorem dX3_readOpening_67 : decode cX3_readOpening 67 = .ok (.getfield 32, 3) := by decide +kernel
theorem dX3_readOpening_70 : decode cX3_readOpening 70 = .ok (.aload_n 0, 1) := by decide +kernel
theorem dX3_readOpening_71 : decode cX3_readOpening 71 = .ok (.getfield 22, 3) := by decide +kernel
theorem dX3_readOpening_74 : decode cX3_readOpening 74 = .ok (.getfield 26, 3) := by decide +kernel
theorem dX3_readOpening_77 : decode cX3_readOpening 77 = .ok (.iconst 1, 1) := by decide +kernel
theorem dX3_readOpening_78 : decode cX3_readOpening 78 = .ok (.isub, 1) := by decide +kernel
theorem dX3_readOpening_79 : decode cX3_readOpening 79 = .ok (.iastore, 1) := by decide +kernel
theorem dX3_readOpening_80 : decode cX3_readOpening 80 = .ok (.aload_n 0, 1) := by decide +kernel
theorem dX3_readOpening_81 : decode cX3_readOpening 81 = .ok (.getfield 15, 3) := by decide +kernel
theorem dX3_readOpening_84 : decode cX3_readOpening 84 = .ok (.aload_n 0, 1) := by decide +kernel
theorem dX3_readOpening_85 : decode cX3_readOpening 85 = .ok (.getfield 32, 3) := by decide +kernel
theorem dX3_readOpening_88 : decode cX3_readOpening 88 = .ok (.iload_n 2, 1) := by decide +kernel
theorem dX3_readOpening_89 : decode cX3_readOpening 89 = .ok (.iastore, 1) := by decide +kernel
theorem dX3_readOpening_90 : decode cX3_readOpening 90 = .ok (.iconst 1, 1) := by decide +kernel
theorem dX3_readOpening_91 : decode cX3_readOpening 91 = .ok (.ireturn, 1) := by decide +kernel
theorem dX3_goOn_0 : decode cX3_goOn 0 = .ok (.aload_n 0, 1) := by decide +kernel
theorem dX3_goOn_1 : decode cX3_goOn 1 = .ok (.dup, 1) := by decide +kernel
theorem dX3_goOn_2 : decode cX3_goOn 2 = .ok (.getfield 35, 3) := by decide +kernel
theorem dX3_goOn_5 : decode cX3_goOn 5 = .ok (.iconst 1, 1) := by decide +kernel
theorem dX3_goOn_6 : decode cX3_goOn 6 = .ok (.iadd, 1) := by decide +kernel
theorem dX3_goOn_7 : decode cX3_goOn 7 = .ok (.putfield 35, 3) := by decide +kernel
theorem dX3_goOn_10 : decode cX3_goOn 10 = .ok (.aload_n 0, 1) := by decide +kernel
theorem dX3_goOn_11 : decode cX3_goOn 11 = .ok (.getfield 32, 3) := by decide +kernel
theorem dX3_goOn_14 : decode cX3_goOn 14 = .ok (.iconst 1, 1) := by decide +kernel
theorem dX3_goOn_15 : decode cX3_goOn 15 = .ok (.iconst 5, 1) := by decide +kernel
theorem dX3_goOn_16 : decode cX3_goOn 16 = .ok (.invokestatic 93, 3) := by decide +kernel
theorem dX3_goOn_19 : decode cX3_goOn 19 = .ok (.ifCond .ne 4, 3) := by decide +kernel
theorem dX3_goOn_22 : decode cX3_goOn 22 = .ok (.return_, 1) := by decide +kernel
theorem dX3_goOn_23 : decode cX3_goOn 23 = .ok (.iload_n 1, 1) := by decide +kernel
theorem dX3_goOn_24 : decode cX3_goOn 24 = .ok (.bipush 58, 2) := by decide +kernel
theorem dX3_goOn_26 : decode cX3_goOn 26 = .ok (.if_icmp .ne 28, 3) := by decide +kernel
theorem dX3_goOn_29 : decode cX3_goOn 29 = .ok (.aload_n 0, 1) := by decide +kernel
theorem dX3_goOn_30 : decode cX3_goOn 30 = .ok (.getfield 22, 3) := by decide +kernel
theorem dX3_goOn_33 : decode cX3_goOn 33 = .ok (.aload_n 0, 1) := by decide +kernel
theorem dX3_goOn_34 : decode cX3_goOn 34 = .ok (.invokevirtual 66, 3) := by decide +kernel
theorem dX3_goOn_37 : decode cX3_goOn 37 = .ok (.invokevirtual 96, 3) := by decide +kernel
theorem dX3_goOn_40 : decode cX3_goOn 40 = .ok (.aload_n 0, 1) := by decide +kernel
theorem dX3_goOn_41 : decode cX3_goOn 41 = .ok (.getfield 15, 3) := by decide +kernel
theorem dX3_goOn_44 : decode cX3_goOn 44 = .ok (.aload_n 0, 1) := by decide +kernel
theorem dX3_goOn_45 : decode cX3_goOn 45 = .ok (.getfield 32, 3) := by decide +kernel
theorem dX3_goOn_48 : decode cX3_goOn 48 = .ok (.bipush 46, 2) := by decide +kernel
theorem dX3_goOn_50 : decode cX3_goOn 50 = .ok (.iastore, 1) := by decide +kernel
theorem dX3_goOn_51 : decode cX3_goOn 51 = .ok (.goto 24, 3) := by decide +kernel
theorem dX3_goOn_54 : decode cX3_goOn 54 = .ok (.aload_n 0, 1) := by decide +kernel
theorem dX3_goOn_55 : decode cX3_goOn 55 = .ok (.getfield 22, 3) := by decide +kernel
theorem dX3_goOn_58 : decode cX3_goOn 58 = .ok (.aload_n 0, 1) := by decide +kernel
theorem dX3_goOn_59 : decode cX3_goOn 59 = .ok (.invokevirtual 66, 3) := by decide +kernel
theorem dX3_goOn_62 : decode cX3_goOn 62 = .ok (.invokevirtual 99, 3) := by decide +kernel
theorem dX3_goOn_65 : decode cX3_goOn 65 = .ok (.aload_n 0, 1) := by decide +kernel
theorem dX3_goOn_66 : decode cX3_goOn 66 = .ok (.dup, 1) := by decide +kernel
theorem dX3_goOn_67 : decode cX3_goOn 67 = .ok (.getfield 32, 3) := by decide +kernel
theorem dX3_goOn_70 : decode cX3_goOn 70 = .ok (.iconst 1, 1) := by decide +kernel
theorem dX3_goOn_71 : decode cX3_goOn 71 = .ok (.isub, 1) := by decide +kernel
theorem dX3_goOn_72 : decode cX3_goOn 72 = .ok (.putfield 32, 3) := by decide +kernel
theorem dX3_goOn_75 : decode cX3_goOn 75 = .ok (.return_, 1) := by decide +kernel
theorem dX3_innermost_0 : decode cX3_innermost 0 = .ok (.aload_n 0, 1) := by decide +kernel
theorem dX3_innermost_1 : decode cX3_innermost 1 = .ok (.getfield 32, 3) := by decide +kernel
theorem dX3_innermost_4 : decode cX3_innermost 4 = .ok (.iconst 0, 1) := by decide +kernel
theorem dX3_innermost_5 : decode cX3_innermost 5 = .ok (.iconst 5, 1) := by decide +kernel
theorem dX3_innermost_6 : decode cX3_innermost 6 = .ok (.invokestatic 93, 3) := by decide +kernel
theorem dX3_innermost_9 : decode cX3_innermost 9 = .ok (.ifCond .eq 15, 3) := by decide +kernel
theorem dX3_innermost_12 : decode cX3_innermost 12 = .ok (.aload_n 0, 1) := by decide +kernel
theorem dX3_innermost_13 : decode cX3_innermost 13 = .ok (.getfield 9, 3) := by decide +kernel
theorem dX3_innermost_16 : decode cX3_innermost 16 = .ok (.aload_n 0, 1) := by decide +kernel
theorem dX3_innermost_17 : decode cX3_innermost 17 = .ok (.getfield 32, 3) := by decide +kernel
theorem dX3_innermost_20 : decode cX3_innermost 20 = .ok (.iaload, 1) := by decide +kernel
theorem dX3_innermost_21 : decode cX3_innermost 21 = .ok (.goto 4, 3) := by decide +kernel
theorem dX3_innermost_24 : decode cX3_innermost 24 = .ok (.iconst (-1), 1) := by decide +kernel
theorem dX3_innermost_25 : decode cX3_innermost 25 = .ok (.ireturn, 1) := by decide +kernel
theorem dX3_awaitedSign_0 : decode cX3_awaitedSign 0 = .ok (.aload_n 0, 1) := by decide +kernel
theorem dX3_awaitedSign_1 : decode cX3_awaitedSign 1 = .ok (.getfield 32, 3) := by decide +kernel
theorem dX3_awaitedSign_4 : decode cX3_awaitedSign 4 = .ok (.iconst 0, 1) := by decide +kernel
theorem dX3_awaitedSign_5 : decode cX3_awaitedSign 5 = .ok (.iconst 5, 1) := by decide +kernel
theorem dX3_awaitedSign_6 : decode cX3_awaitedSign 6 = .ok (.invokestatic 93, 3) := by decide +kernel
theorem dX3_awaitedSign_9 : decode cX3_awaitedSign 9 = .ok (.ifCond .eq 15, 3) := by decide +kernel
theorem dX3_awaitedSign_12 : decode cX3_awaitedSign 12 = .ok (.aload_n 0, 1) := by decide +kernel
theorem dX3_awaitedSign_13 : decode cX3_awaitedSign 13 = .ok (.getfield 15, 3) := by decide +kernel
theorem dX3_awaitedSign_16 : decode cX3_awaitedSign 16 = .ok (.aload_n 0, 1) := by decide +kernel
theorem dX3_awaitedSign_17 : decode cX3_awaitedSign 17 = .ok (.getfield 32, 3) := by decide +kernel
theorem dX3_awaitedSign_20 : decode cX3_awaitedSign 20 = .ok (.iaload, 1) := by decide +kernel
theorem dX3_awaitedSign_21 : decode cX3_awaitedSign 21 = .ok (.goto 4, 3) := by decide +kernel
theorem dX3_awaitedSign_24 : decode cX3_awaitedSign 24 = .ok (.iconst 0, 1) := by decide +kernel
theorem dX3_awaitedSign_25 : decode cX3_awaitedSign 25 = .ok (.ireturn, 1) := by decide +kernel
theorem dX3_nextSign_0 : decode cX3_nextSign 0 = .ok (.iconst 0, 1) := by decide +kernel
theorem dX3_nextSign_1 : decode cX3_nextSign 1 = .ok (.istore_n 1, 1) := by decide +kernel
theorem dX3_nextSign_2 : decode cX3_nextSign 2 = .ok (.iload_n 1, 1) := by decide +kernel
theorem dX3_nextSign_3 : decode cX3_nextSign 3 = .ok (.bipush 120, 2) := by decide +kernel
theorem dX3_nextSign_5 : decode cX3_nextSign 5 = .ok (.if_icmp .ge 35, 3) := by decide +kernel
theorem dX3_nextSign_8 : decode cX3_nextSign 8 = .ok (.aload_n 0, 1) := by decide +kernel
theorem dX3_nextSign_9 : decode cX3_nextSign 9 = .ok (.getfield 18, 3) := by decide +kernel
theorem dX3_nextSign_12 : decode cX3_nextSign 12 = .ok (.aload_n 0, 1) := by decide +kernel
theorem dX3_nextSign_13 : decode cX3_nextSign 13 = .ok (.getfield 35, 3) := by decide +kernel
theorem dX3_nextSign_16 : decode cX3_nextSign 16 = .ok (.invokevirtual 102, 3) := by decide +kernel
theorem dX3_nextSign_19 : decode cX3_nextSign 19 = .ok (.bipush 32, 2) := by decide +kernel
theorem dX3_nextSign_21 : decode cX3_nextSign 21 = .ok (.if_icmp .ne 19, 3) := by decide +kernel
theorem dX3_nextSign_24 : decode cX3_nextSign 24 = .ok (.aload_n 0, 1) := by decide +kernel
theorem dX3_nextSign_25 : decode cX3_nextSign 25 = .ok (.dup, 1) := by decide +kernel
theorem dX3_nextSign_26 : decode cX3_nextSign 26 = .ok (.getfield 35, 3) := by decide +kernel
theorem dX3_nextSign_29 : decode cX3_nextSign 29 = .ok (.iconst 1, 1) := by decide +kernel
theorem dX3_nextSign_30 : decode cX3_nextSign 30 = .ok (.iadd, 1) := by decide +kernel
theorem dX3_nextSign_31 : decode cX3_nextSign 31 = .ok (.putfield 35, 3) := by decide +kernel
theorem dX3_nextSign_34 : decode cX3_nextSign 34 = .ok (.iinc 1 1, 3) := by decide +kernel
theorem dX3_nextSign_37 : decode cX3_nextSign 37 = .ok (.goto (-35), 3) := by decide +kernel
theorem dX3_nextSign_40 : decode cX3_nextSign 40 = .ok (.aload_n 0, 1) := by decide +kernel
theorem dX3_nextSign_41 : decode cX3_nextSign 41 = .ok (.getfield 18, 3) := by decide +kernel
theorem dX3_nextSign_44 : decode cX3_nextSign 44 = .ok (.aload_n 0, 1) := by decide +kernel
theorem dX3_nextSign_45 : decode cX3_nextSign 45 = .ok (.getfield 35, 3) := by decide +kernel
theorem dX3_nextSign_48 : decode cX3_nextSign 48 = .ok (.invokevirtual 102, 3) := by decide +kernel
theorem dX3_nextSign_51 : decode cX3_nextSign 51 = .ok (.ireturn, 1) := by decide +kernel
theorem dX3_take_0 : decode cX3_take 0 = .ok (.aload_n 0, 1) := by decide +kernel
theorem dX3_take_1 : decode cX3_take 1 = .ok (.invokevirtual 38, 3) := by decide +kernel
theorem dX3_take_4 : decode cX3_take 4 = .ok (.iload_n 1, 1) := by decide +kernel
theorem dX3_take_5 : decode cX3_take 5 = .ok (.if_icmp .eq 5, 3) := by decide +kernel
theorem dX3_take_8 : decode cX3_take 8 = .ok (.iconst 0, 1) := by decide +kernel
theorem dX3_take_9 : decode cX3_take 9 = .ok (.ireturn, 1) := by decide +kernel
theorem dX3_take_10 : decode cX3_take 10 = .ok (.aload_n 0, 1) := by decide +kernel
theorem dX3_take_11 : decode cX3_take 11 = .ok (.dup, 1) := by decide +kernel
theorem dX3_take_12 : decode cX3_take 12 = .ok (.getfield 35, 3) := by decide +kernel
theorem dX3_take_15 : decode cX3_take 15 = .ok (.iconst 1, 1) := by decide +kernel
theorem dX3_take_16 : decode cX3_take 16 = .ok (.iadd, 1) := by decide +kernel
theorem dX3_take_17 : decode cX3_take 17 = .ok (.putfield 35, 3) := by decide +kernel
theorem dX3_take_20 : decode cX3_take 20 = .ok (.iconst 1, 1) := by decide +kernel
theorem dX3_take_21 : decode cX3_take 21 = .ok (.ireturn, 1) := by decide +kernel
theorem dX3_takeCell_0 : decode cX3_takeCell 0 = .ok (.aload_n 0, 1) := by decide +kernel
theorem dX3_takeCell_1 : decode cX3_takeCell 1 = .ok (.invokevirtual 38, 3) := by decide +kernel
theorem dX3_takeCell_4 : decode cX3_takeCell 4 = .ok (.bipush 97, 2) := by decide +kernel
theorem dX3_takeCell_6 : decode cX3_takeCell 6 = .ok (.isub, 1) := by decide +kernel
theorem dX3_takeCell_7 : decode cX3_takeCell 7 = .ok (.istore_n 1, 1) := by decide +kernel
theorem dX3_takeCell_8 : decode cX3_takeCell 8 = .ok (.iload_n 1, 1) := by decide +kernel
theorem dX3_takeCell_9 : decode cX3_takeCell 9 = .ok (.invokestatic 108, 3) := by decide +kernel
theorem dX3_takeCell_12 : decode cX3_takeCell 12 = .ok (.ifCond .ne 5, 3) := by decide +kernel
theorem dX3_takeCell_15 : decode cX3_takeCell 15 = .ok (.iconst (-1), 1) := by decide +kernel
theorem dX3_takeCell_16 : decode cX3_takeCell 16 = .ok (.ireturn, 1) := by decide +kernel
theorem dX3_takeCell_17 : decode cX3_takeCell 17 = .ok (.aload_n 0, 1) := by decide +kernel
theorem dX3_takeCell_18 : decode cX3_takeCell 18 = .ok (.dup, 1) := by decide +kernel
theorem dX3_takeCell_19 : decode cX3_takeCell 19 = .ok (.getfield 35, 3) := by decide +kernel
theorem dX3_takeCell_22 : decode cX3_takeCell 22 = .ok (.iconst 1, 1) := by decide +kernel
theorem dX3_takeCell_23 : decode cX3_takeCell 23 = .ok (.iadd, 1) := by decide +kernel
theorem dX3_takeCell_24 : decode cX3_takeCell 24 = .ok (.putfield 35, 3) := by decide +kernel
theorem dX3_takeCell_27 : decode cX3_takeCell 27 = .ok (.iload_n 1, 1) := by decide +kernel
theorem dX3_takeCell_28 : decode cX3_takeCell 28 = .ok (.ireturn, 1) := by decide +kernel
theorem dX3_takeOperator_0 : decode cX3_takeOperator 0 = .ok (.aload_n 0, 1) := by decide +kernel
theorem dX3_takeOperator_1 : decode cX3_takeOperator 1 = .ok (.invokevirtual 38, 3) := by decide +kernel
theorem dX3_takeOperator_4 : decode cX3_takeOperator 4 = .ok (.istore_n 1, 1) := by decide +kernel
theorem dX3_takeOperator_5 : decode cX3_takeOperator 5 = .ok (.iload_n 1, 1) := by decide +kernel
theorem dX3_takeOperator_6 : decode cX3_takeOperator 6 = .ok (.bipush 43, 2) := by decide +kernel
theorem dX3_takeOperator_8 : decode cX3_takeOperator 8 = .ok (.if_icmp .eq 17, 3) := by decide +kernel
theorem dX3_takeOperator_11 : decode cX3_takeOperator 11 = .ok (.iload_n 1, 1) := by decide +kernel
theorem dX3_takeOperator_12 : decode cX3_takeOperator 12 = .ok (.bipush 45, 2) := by decide +kernel
theorem dX3_takeOperator_14 : decode cX3_takeOperator 14 = .ok (.if_icmp .eq 11, 3) := by decide +kernel
theorem dX3_takeOperator_17 : decode cX3_takeOperator 17 = .ok (.iload_n 1, 1) := by decide +kernel
theorem dX3_takeOperator_18 : decode cX3_takeOperator 18 = .ok (.bipush 42, 2) := by decide +kernel
theorem dX3_takeOperator_20 : decode cX3_takeOperator 20 = .ok (.if_icmp .eq 5, 3) := by decide +kernel
theorem dX3_takeOperator_23 : decode cX3_takeOperator 23 = .ok (.iconst 0, 1) := by decide +kernel
theorem dX3_takeOperator_24 : decode cX3_takeOperator 24 = .ok (.ireturn, 1) := by decide +kernel
theorem dX3_takeOperator_25 : decode cX3_takeOperator 25 = .ok (.aload_n 0, 1) := by decide +kernel
theorem dX3_takeOperator_26 : decode cX3_takeOperator 26 = .ok (.dup, 1) := by decide +kernel
theorem dX3_takeOperator_27 : decode cX3_takeOperator 27 = .ok (.getfield 35, 3) := by decide +kernel
theorem dX3_takeOperator_30 : decode cX3_takeOperator 30 = .ok (.iconst 1, 1) := by decide +kernel
theorem dX3_takeOperator_31 : decode cX3_takeOperator 31 = .ok (.iadd, 1) := by decide +kernel
theorem dX3_takeOperator_32 : decode cX3_takeOperator 32 = .ok (.putfield 35, 3) := by decide +kernel
theorem dX3_takeOperator_35 : decode cX3_takeOperator 35 = .ok (.iload_n 1, 1) := by decide +kernel
theorem dX3_takeOperator_36 : decode cX3_takeOperator 36 = .ok (.ireturn, 1) := by decide +kernel
theorem dX3_takeTerm_0 : decode cX3_takeTerm 0 = .ok (.aload_n 0, 1) := by decide +kernel
theorem dX3_takeTerm_1 : decode cX3_takeTerm 1 = .ok (.invokevirtual 80, 3) := by decide +kernel
theorem dX3_takeTerm_4 : decode cX3_takeTerm 4 = .ok (.istore_n 1, 1) := by decide +kernel
theorem dX3_takeTerm_5 : decode cX3_takeTerm 5 = .ok (.iload_n 1, 1) := by decide +kernel
theorem dX3_takeTerm_6 : decode cX3_takeTerm 6 = .ok (.iconst (-1), 1) := by decide +kernel
theorem dX3_takeTerm_7 : decode cX3_takeTerm 7 = .ok (.if_icmp .eq 9, 3) := by decide +kernel
theorem dX3_takeTerm_10 : decode cX3_takeTerm 10 = .ok (.sipush 1000, 3) := by decide +kernel
theorem dX3_takeTerm_13 : decode cX3_takeTerm 13 = .ok (.iload_n 1, 1) := by decide +kernel
theorem dX3_takeTerm_14 : decode cX3_takeTerm 14 = .ok (.iadd, 1) := by decide +kernel
theorem dX3_takeTerm_15 : decode cX3_takeTerm 15 = .ok (.ireturn, 1) := by decide +kernel
theorem dX3_takeTerm_16 : decode cX3_takeTerm 16 = .ok (.aload_n 0, 1) := by decide +kernel
theorem dX3_takeTerm_17 : decode cX3_takeTerm 17 = .ok (.invokevirtual 38, 3) := by decide +kernel
theorem dX3_takeTerm_20 : decode cX3_takeTerm 20 = .ok (.invokestatic 111, 3) := by decide +kernel
theorem dX3_takeTerm_23 : decode cX3_takeTerm 23 = .ok (.ifCond .eq 10, 3) := by decide +kernel
theorem dX3_takeTerm_26 : decode cX3_takeTerm 26 = .ok (.aload_n 0, 1) := by decide +kernel
theorem dX3_takeTerm_27 : decode cX3_takeTerm 27 = .ok (.invokevirtual 114, 3) := by decide +kernel
theorem dX3_takeTerm_30 : decode cX3_takeTerm 30 = .ok (.goto 4, 3) := by decide +kernel
theorem dX3_takeTerm_33 : decode cX3_takeTerm 33 = .ok (.iconst (-1), 1) := by decide +kernel
theorem dX3_takeTerm_34 : decode cX3_takeTerm 34 = .ok (.ireturn, 1) := by decide +kernel
theorem dX3_takeNumber_0 : decode cX3_takeNumber 0 = .ok (.aload_n 0, 1) := by decide +kernel
theorem dX3_takeNumber_1 : decode cX3_takeNumber 1 = .ok (.getfield 18, 3) := by decide +kernel
theorem dX3_takeNumber_4 : decode cX3_takeNumber 4 = .ok (.aload_n 0, 1) := by decide +kernel
theorem dX3_takeNumber_5 : decode cX3_takeNumber 5 = .ok (.getfield 35, 3) := by decide +kernel
theorem dX3_takeNumber_8 : decode cX3_takeNumber 8 = .ok (.invokevirtual 102, 3) := by decide +kernel
theorem dX3_takeNumber_11 : decode cX3_takeNumber 11 = .ok (.bipush 48, 2) := by decide +kernel
theorem dX3_takeNumber_13 : decode cX3_takeNumber 13 = .ok (.isub, 1) := by decide +kernel
theorem dX3_takeNumber_14 : decode cX3_takeNumber 14 = .ok (.istore_n 1, 1) := by decide +kernel
theorem dX3_takeNumber_15 : decode cX3_takeNumber 15 = .ok (.aload_n 0, 1) := by decide +kernel
theorem dX3_takeNumber_16 : decode cX3_takeNumber 16 = .ok (.dup, 1) := by decide +kernel
theorem dX3_takeNumber_17 : decode cX3_takeNumber 17 = .ok (.getfield 35, 3) := by decide +kernel
theorem dX3_takeNumber_20 : decode cX3_takeNumber 20 = .ok (.iconst 1, 1) := by decide +kernel
theorem dX3_takeNumber_21 : decode cX3_takeNumber 21 = .ok (.iadd, 1) := by decide +kernel
theorem dX3_takeNumber_22 : decode cX3_takeNumber 22 = .ok (.putfield 35, 3) := by decide +kernel
theorem dX3_takeNumber_25 : decode cX3_takeNumber 25 = .ok (.iconst 1, 1) := by decide +kernel
theorem dX3_takeNumber_26 : decode cX3_takeNumber 26 = .ok (.istore_n 2, 1) := by decide +kernel
theorem dX3_takeNumber_27 : decode cX3_takeNumber 27 = .ok (.iload_n 2, 1) := by decide +kernel
theorem dX3_takeNumber_28 : decode cX3_takeNumber 28 = .ok (.iconst 3, 1) := by decide +kernel
theorem dX3_takeNumber_29 : decode cX3_takeNumber 29 = .ok (.if_icmp .ge 60, 3) := by decide +kernel
theorem dX3_takeNumber_32 : decode cX3_takeNumber 32 = .ok (.iload_n 1, 1) := by decide +kernel
theorem dX3_takeNumber_33 : decode cX3_takeNumber 33 = .ok (.ifCond .le 56, 3) := by decide +kernel
theorem dX3_takeNumber_36 : decode cX3_takeNumber 36 = .ok (.aload_n 0, 1) := by decide +kernel
theorem dX3_takeNumber_37 : decode cX3_takeNumber 37 = .ok (.getfield 18, 3) := by decide +kernel
theorem dX3_takeNumber_40 : decode cX3_takeNumber 40 = .ok (.aload_n 0, 1) := by decide +kernel
theorem dX3_takeNumber_41 : decode cX3_takeNumber 41 = .ok (.getfield 35, 3) := by decide +kernel
theorem dX3_takeNumber_44 : decode cX3_takeNumber 44 = .ok (.invokevirtual 102, 3) := by decide +kernel
theorem dX3_takeNumber_47 : decode cX3_takeNumber 47 = .ok (.invokestatic 111, 3) := by decide +kernel
theorem dX3_takeNumber_50 : decode cX3_takeNumber 50 = .ok (.ifCond .eq 39, 3) := by decide +kernel
theorem dX3_takeNumber_53 : decode cX3_takeNumber 53 = .ok (.iload_n 1, 1) := by decide +kernel
theorem dX3_takeNumber_54 : decode cX3_takeNumber 54 = .ok (.bipush 10, 2) := by decide +kernel
theorem dX3_takeNumber_56 : decode cX3_takeNumber 56 = .ok (.imul, 1) := by decide +kernel
theorem dX3_takeNumber_57 : decode cX3_takeNumber 57 = .ok (.aload_n 0, 1) := by decide +kernel
theorem dX3_takeNumber_58 : decode cX3_takeNumber 58 = .ok (.getfield 18, 3) := by decide +kernel
theorem dX3_takeNumber_61 : decode cX3_takeNumber 61 = .ok (.aload_n 0, 1) := by decide +kernel
theorem dX3_takeNumber_62 : decode cX3_takeNumber 62 = .ok (.getfield 35, 3) := by decide +kernel
theorem dX3_takeNumber_65 : decode cX3_takeNumber 65 = .ok (.invokevirtual 102, 3) := by decide +kernel
theorem dX3_takeNumber_68 : decode cX3_takeNumber 68 = .ok (.iadd, 1) := by decide +kernel
theorem dX3_takeNumber_69 : decode cX3_takeNumber 69 = .ok (.bipush 48, 2) := by decide +kernel
theorem dX3_takeNumber_71 : decode cX3_takeNumber 71 = .ok (.isub, 1) := by decide +kernel
theorem dX3_takeNumber_72 : decode cX3_takeNumber 72 = .ok (.istore_n 1, 1) := by decide +kernel
theorem dX3_takeNumber_73 : decode cX3_takeNumber 73 = .ok (.aload_n 0, 1) := by decide +kernel
theorem dX3_takeNumber_74 : decode cX3_takeNumber 74 = .ok (.dup, 1) := by decide +kernel
theorem dX3_takeNumber_75 : decode cX3_takeNumber 75 = .ok (.getfield 35, 3) := by decide +kernel
theorem dX3_takeNumber_78 : decode cX3_takeNumber 78 = .ok (.iconst 1, 1) := by decide +kernel
theorem dX3_takeNumber_79 : decode cX3_takeNumber 79 = .ok (.iadd, 1) := by decide +kernel
theorem dX3_takeNumber_80 : decode cX3_takeNumber 80 = .ok (.putfield 35, 3) := by decide +kernel
theorem dX3_takeNumber_83 : decode cX3_takeNumber 83 = .ok (.iinc 2 1, 3) := by decide +kernel
theorem dX3_takeNumber_86 : decode cX3_takeNumber 86 = .ok (.goto (-59), 3) := by decide +kernel
theorem dX3_takeNumber_89 : decode cX3_takeNumber 89 = .ok (.iload_n 1, 1) := by decide +kernel
theorem dX3_takeNumber_90 : decode cX3_takeNumber 90 = .ok (.ireturn, 1) := by decide +kernel
theorem dX3_isDigit_0 : decode cX3_isDigit 0 = .ok (.iload_n 0, 1) := by decide +kernel
theorem dX3_isDigit_1 : decode cX3_isDigit 1 = .ok (.bipush 48, 2) := by decide +kernel
theorem dX3_isDigit_3 : decode cX3_isDigit 3 = .ok (.bipush 57, 2) := by decide +kernel
theorem dX3_isDigit_5 : decode cX3_isDigit 5 = .ok (.invokestatic 93, 3) := by decide +kernel
theorem dX3_isDigit_8 : decode cX3_isDigit 8 = .ok (.ireturn, 1) := by decide +kernel
theorem dX4_init_0 : decode cX4_init 0 = .ok (.aload_n 0, 1) := by decide +kernel
theorem dX4_init_1 : decode cX4_init 1 = .ok (.invokespecial 3, 3) := by decide +kernel
theorem dX4_init_4 : decode cX4_init 4 = .ok (.aload_n 0, 1) := by decide +kernel
theorem dX4_init_5 : decode cX4_init 5 = .ok (.new 9, 3) := by decide +kernel
theorem dX4_init_8 : decode cX4_init 8 = .ok (.dup, 1) := by decide +kernel
theorem dX4_init_9 : decode cX4_init 9 = .ok (.invokespecial 11, 3) := by decide +kernel
theorem dX4_init_12 : decode cX4_init 12 = .ok (.putfield 12, 3) := by decide +kernel
theorem dX4_init_15 : decode cX4_init 15 = .ok (.aload_n 0, 1) := by decide +kernel
theorem dX4_init_16 : decode cX4_init 16 = .ok (.new 9, 3) := by decide +kernel
theorem dX4_init_19 : decode cX4_init 19 = .ok (.dup, 1) := by decide +kernel
theorem dX4_init_20 : decode cX4_init 20 = .ok (.invokespecial 11, 3) := by decide +kernel
theorem dX4_init_23 : decode cX4_init 23 = .ok (.putfield 18, 3) := by decide +kernel
theorem dX4_init_26 : decode cX4_init 26 = .ok (.return_, 1) := by decide +kernel
theorem dX4_follow_0 : decode cX4_follow 0 = .ok (.aload_n 0, 1) := by decide +kernel
theorem dX4_follow_1 : decode cX4_follow 1 = .ok (.getfield 12, 3) := by decide +kernel
theorem dX4_follow_4 : decode cX4_follow 4 = .ok (.aload_n 1, 1) := by decide +kernel
theorem dX4_follow_5 : decode cX4_follow 5 = .ok (.iload_n 3, 1) := by decide +kernel
theorem dX4_follow_6 : decode cX4_follow 6 = .ok (.iload 4, 2) := by decide +kernel
theorem dX4_follow_8 : decode cX4_follow 8 = .ok (.invokevirtual 21, 3) := by decide +kernel
theorem dX4_follow_11 : decode cX4_follow 11 = .ok (.aload_n 0, 1) := by decide +kernel
theorem dX4_follow_12 : decode cX4_follow 12 = .ok (.getfield 18, 3) := by decide +kernel
theorem dX4_follow_15 : decode cX4_follow 15 = .ok (.aload_n 2, 1) := by decide +kernel
theorem dX4_follow_16 : decode cX4_follow 16 = .ok (.iload_n 3, 1) := by decide +kernel
theorem dX4_follow_17 : decode cX4_follow 17 = .ok (.iload 4, 2) := by decide +kernel
theorem dX4_follow_19 : decode cX4_follow 19 = .ok (.invokevirtual 21, 3) := by decide +kernel
theorem dX4_follow_22 : decode cX4_follow 22 = .ok (.return_, 1) := by decide +kernel
theorem dX4_pairsKept_0 : decode cX4_pairsKept 0 = .ok (.aload_n 0, 1) := by decide +kernel
theorem dX4_pairsKept_1 : decode cX4_pairsKept 1 = .ok (.getfield 12, 3) := by decide +kernel
theorem dX4_pairsKept_4 : decode cX4_pairsKept 4 = .ok (.invokevirtual 25, 3) := by decide +kernel
theorem dX4_pairsKept_7 : decode cX4_pairsKept 7 = .ok (.aload_n 0, 1) := by decide +kernel
theorem dX4_pairsKept_8 : decode cX4_pairsKept 8 = .ok (.getfield 18, 3) := by decide +kernel
theorem dX4_pairsKept_11 : decode cX4_pairsKept 11 = .ok (.invokevirtual 25, 3) := by decide +kernel
theorem dX4_pairsKept_14 : decode cX4_pairsKept 14 = .ok (.invokestatic 29, 3) := by decide +kernel
theorem dX4_pairsKept_17 : decode cX4_pairsKept 17 = .ok (.ireturn, 1) := by decide +kernel
theorem dX4_leadAt_0 : decode cX4_leadAt 0 = .ok (.aload_n 0, 1) := by decide +kernel
theorem dX4_leadAt_1 : decode cX4_leadAt 1 = .ok (.getfield 12, 3) := by decide +kernel
theorem dX4_leadAt_4 : decode cX4_leadAt 4 = .ok (.iload_n 1, 1) := by decide +kernel
theorem dX4_leadAt_5 : decode cX4_leadAt 5 = .ok (.invokevirtual 35, 3) := by decide +kernel
theorem dX4_leadAt_8 : decode cX4_leadAt 8 = .ok (.aload_n 0, 1) := by decide +kernel
theorem dX4_leadAt_9 : decode cX4_leadAt 9 = .ok (.getfield 18, 3) := by decide +kernel
theorem dX4_leadAt_12 : decode cX4_leadAt 12 = .ok (.iload_n 1, 1) := by decide +kernel
theorem dX4_leadAt_13 : decode cX4_leadAt 13 = .ok (.invokevirtual 35, 3) := by decide +kernel
theorem dX4_leadAt_16 : decode cX4_leadAt 16 = .ok (.isub, 1) := by decide +kernel
theorem dX4_leadAt_17 : decode cX4_leadAt 17 = .ok (.ireturn, 1) := by decide +kernel
theorem dX4_greatestLead_0 : decode cX4_greatestLead 0 = .ok (.sipush (-10009), 3) := by decide +kernel
theorem dX4_greatestLead_3 : decode cX4_greatestLead 3 = .ok (.istore_n 1, 1) := by decide +kernel
theorem dX4_greatestLead_4 : decode cX4_greatestLead 4 = .ok (.aload_n 0, 1) := by decide +kernel
theorem dX4_greatestLead_5 : decode cX4_greatestLead 5 = .ok (.invokevirtual 39, 3) := by decide +kernel
theorem dX4_greatestLead_8 : decode cX4_greatestLead 8 = .ok (.istore_n 2, 1) := by decide +kernel
theorem dX4_greatestLead_9 : decode cX4_greatestLead 9 = .ok (.iconst 0, 1) := by decide +kernel
theorem dX4_greatestLead_10 : decode cX4_greatestLead 10 = .ok (.istore_n 3, 1) := by decide +kernel
theorem dX4_greatestLead_11 : decode cX4_greatestLead 11 = .ok (.iload_n 3, 1) := by decide +kernel
theorem dX4_greatestLead_12 : decode cX4_greatestLead 12 = .ok (.iload_n 2, 1) := by decide +kernel
theorem dX4_greatestLead_13 : decode cX4_greatestLead 13 = .ok (.if_icmp .ge 22, 3) := by decide +kernel
theorem dX4_greatestLead_16 : decode cX4_greatestLead 16 = .ok (.iload_n 1, 1) := by decide +kernel
theorem dX4_greatestLead_17 : decode cX4_greatestLead 17 = .ok (.aload_n 0, 1) := by decide +kernel
theorem dX4_greatestLead_18 : decode cX4_greatestLead 18 = .ok (.iload_n 3, 1) := by decide +kernel
theorem dX4_greatestLead_19 : decode cX4_greatestLead 19 = .ok (.invokevirtual 42, 3) := by decide +kernel
theorem dX4_greatestLead_22 : decode cX4_greatestLead 22 = .ok (.invokestatic 45, 3) := by decide +kernel
theorem dX4_greatestLead_25 : decode cX4_greatestLead 25 = .ok (.invokestatic 48, 3) := by decide +kernel
theorem dX4_greatestLead_28 : decode cX4_greatestLead 28 = .ok (.istore_n 1, 1) := by decide +kernel
theorem dX4_greatestLead_29 : decode cX4_greatestLead 29 = .ok (.iinc 3 1, 3) := by decide +kernel
theorem dX4_greatestLead_32 : decode cX4_greatestLead 32 = .ok (.goto (-21), 3) := by decide +kernel
theorem dX4_greatestLead_35 : decode cX4_greatestLead 35 = .ok (.iload_n 1, 1) := by decide +kernel
theorem dX4_greatestLead_36 : decode cX4_greatestLead 36 = .ok (.ireturn, 1) := by decide +kernel
theorem dX4_lastLead_0 : decode cX4_lastLead 0 = .ok (.aload_n 0, 1) := by decide +kernel
theorem dX4_lastLead_1 : decode cX4_lastLead 1 = .ok (.invokevirtual 39, 3) := by decide +kernel
theorem dX4_lastLead_4 : decode cX4_lastLead 4 = .ok (.istore_n 1, 1) := by decide +kernel
theorem dX4_lastLead_5 : decode cX4_lastLead 5 = .ok (.iload_n 1, 1) := by decide +kernel
theorem dX4_lastLead_6 : decode cX4_lastLead 6 = .ok (.ifCond .ne 9, 3) := by decide +kernel
theorem dX4_lastLead_9 : decode cX4_lastLead 9 = .ok (.sipush (-10009), 3) := by decide +kernel
theorem dX4_lastLead_12 : decode cX4_lastLead 12 = .ok (.goto 10, 3) := by decide +kernel
theorem dX4_lastLead_15 : decode cX4_lastLead 15 = .ok (.aload_n 0, 1) := by decide +kernel
theorem dX4_lastLead_16 : decode cX4_lastLead 16 = .ok (.iload_n 1, 1) := by decide +kernel
theorem dX4_lastLead_17 : decode cX4_lastLead 17 = .ok (.iconst 1, 1) := by decide +kernel
theorem dX4_lastLead_18 : decode cX4_lastLead 18 = .ok (.isub, 1) := by decide +kernel
theorem dX4_lastLead_19 : decode cX4_lastLead 19 = .ok (.invokevirtual 42, 3) := by decide +kernel
theorem dX4_lastLead_22 : decode cX4_lastLead 22 = .ok (.ireturn, 1) := by decide +kernel
theorem dX4_evenPairs_0 : decode cX4_evenPairs 0 = .ok (.iconst 0, 1) := by decide +kernel
theorem dX4_evenPairs_1 : decode cX4_evenPairs 1 = .ok (.istore_n 1, 1) := by decide +kernel
theorem dX4_evenPairs_2 : decode cX4_evenPairs 2 = .ok (.aload_n 0, 1) := by decide +kernel
theorem dX4_evenPairs_3 : decode cX4_evenPairs 3 = .ok (.invokevirtual 39, 3) := by decide +kernel
theorem dX4_evenPairs_6 : decode cX4_evenPairs 6 = .ok (.istore_n 2, 1) := by decide +kernel
theorem dX4_evenPairs_7 : decode cX4_evenPairs 7 = .ok (.iconst 0, 1) := by decide +kernel
theorem dX4_evenPairs_8 : decode cX4_evenPairs 8 = .ok (.istore_n 3, 1) := by decide +kernel
theorem dX4_evenPairs_9 : decode cX4_evenPairs 9 = .ok (.iload_n 3, 1) := by decide +kernel
theorem dX4_evenPairs_10 : decode cX4_evenPairs 10 = .ok (.iload_n 2, 1) := by decide +kernel
theorem dX4_evenPairs_11 : decode cX4_evenPairs 11 = .ok (.if_icmp .ge 20, 3) := by decide +kernel
theorem dX4_evenPairs_14 : decode cX4_evenPairs 14 = .ok (.aload_n 0, 1) := by decide +kernel
theorem dX4_evenPairs_15 : decode cX4_evenPairs 15 = .ok (.iload_n 3, 1) := by decide +kernel
theorem dX4_evenPairs_16 : decode cX4_evenPairs 16 = .ok (.invokevirtual 51, 3) := by decide +kernel
theorem dX4_evenPairs_19 : decode cX4_evenPairs 19 = .ok (.ifCond .eq 6, 3) := by decide +kernel
theorem dX4_evenPairs_22 : decode cX4_evenPairs 22 = .ok (.iinc 1 1, 3) := by decide +kernel
theorem dX4_evenPairs_25 : decode cX4_evenPairs 25 = .ok (.iinc 3 1, 3) := by decide +kernel
theorem dX4_evenPairs_28 : decode cX4_evenPairs 28 = .ok (.goto (-19), 3) := by decide +kernel
theorem dX4_evenPairs_31 : decode cX4_evenPairs 31 = .ok (.iload_n 1, 1) := by decide +kernel
theorem dX4_evenPairs_32 : decode cX4_evenPairs 32 = .ok (.ireturn, 1) := by decide +kernel
theorem dX4_isEven_0 : decode cX4_isEven 0 = .ok (.iconst 0, 1) := by decide +kernel
theorem dX4_isEven_1 : decode cX4_isEven 1 = .ok (.istore_n 2, 1) := by decide +kernel
theorem dX4_isEven_2 : decode cX4_isEven 2 = .ok (.iload_n 2, 1) := by decide +kernel
theorem dX4_isEven_3 : decode cX4_isEven 3 = .ok (.bipush 6, 2) := by decide +kernel
theorem dX4_isEven_5 : decode cX4_isEven 5 = .ok (.if_icmp .ge 32, 3) := by decide +kernel
theorem dX4_isEven_8 : decode cX4_isEven 8 = .ok (.aload_n 0, 1) := by decide +kernel
theorem dX4_isEven_9 : decode cX4_isEven 9 = .ok (.getfield 12, 3) := by decide +kernel
theorem dX4_isEven_12 : decode cX4_isEven 12 = .ok (.iload_n 1, 1) := by decide +kernel
theorem dX4_isEven_13 : decode cX4_isEven 13 = .ok (.iload_n 2, 1) := by decide +kernel
theorem dX4_isEven_14 : decode cX4_isEven 14 = .ok (.invokevirtual 55, 3) := by decide +kernel
theorem dX4_isEven_17 : decode cX4_isEven 17 = .ok (.aload_n 0, 1) := by decide +kernel
end
section
theorem dX4_isEven_18 : decode cX4_isEven 18 = .ok (.getfield 18, 3) := by decide +kernel
theorem dX4_isEven_21 : decode cX4_isEven 21 = .ok (.iload_n 1, 1) := by decide +kernel
theorem dX4_isEven_22 : decode cX4_isEven 22 = .ok (.iload_n 2, 1) := by decide +kernel
theorem dX4_isEven_23 : decode cX4_isEven 23 = .ok (.invokevirtual 55, 3) := by decide +kernel
theorem dX4_isEven_26 : decode cX4_isEven 26 = .ok (.if_icmp .eq 5, 3) := by decide +kernel
theorem dX4_isEven_29 : decode cX4_isEven 29 = .ok (.iconst 0, 1) := by decide +kernel
theorem dX4_isEven_30 : decode cX4_isEven 30 = .ok (.ireturn, 1) := by decide +kernel
theorem dX4_isEven_31 : decode cX4_isEven 31 = .ok (.iinc 2 1, 3) := by decide +kernel
theorem dX4_isEven_34 : decode cX4_isEven 34 = .ok (.goto (-32), 3) := by decide +kernel
theorem dX4_isEven_37 : decode cX4_isEven 37 = .ok (.iconst 1, 1) := by decide +kernel
theorem dX4_isEven_38 : decode cX4_isEven 38 = .ok (.ireturn, 1) := by decide +kernel
theorem dX4_cellsEqualTo_0 : decode cX4_cellsEqualTo 0 = .ok (.iconst 0, 1) := by decide +kernel
theorem dX4_cellsEqualTo_1 : decode cX4_cellsEqualTo 1 = .ok (.istore_n 2, 1) := by decide +kernel
theorem dX4_cellsEqualTo_2 : decode cX4_cellsEqualTo 2 = .ok (.iconst 0, 1) := by decide +kernel
theorem dX4_cellsEqualTo_3 : decode cX4_cellsEqualTo 3 = .ok (.istore_n 3, 1) := by decide +kernel
theorem dX4_cellsEqualTo_4 : decode cX4_cellsEqualTo 4 = .ok (.iload_n 3, 1) := by decide +kernel
theorem dX4_cellsEqualTo_5 : decode cX4_cellsEqualTo 5 = .ok (.bipush 6, 2) := by decide +kernel
theorem dX4_cellsEqualTo_7 : decode cX4_cellsEqualTo 7 = .ok (.if_icmp .ge 24, 3) := by decide +kernel
theorem dX4_cellsEqualTo_10 : decode cX4_cellsEqualTo 10 = .ok (.aload_n 0, 1) := by decide +kernel
theorem dX4_cellsEqualTo_11 : decode cX4_cellsEqualTo 11 = .ok (.iload_n 1, 1) := by decide +kernel
theorem dX4_cellsEqualTo_12 : decode cX4_cellsEqualTo 12 = .ok (.iload_n 3, 1) := by decide +kernel
theorem dX4_cellsEqualTo_13 : decode cX4_cellsEqualTo 13 = .ok (.invokevirtual 58, 3) := by decide +kernel
theorem dX4_cellsEqualTo_16 : decode cX4_cellsEqualTo 16 = .ok (.ifCond .eq 9, 3) := by decide +kernel
theorem dX4_cellsEqualTo_19 : decode cX4_cellsEqualTo 19 = .ok (.iload_n 2, 1) := by decide +kernel
theorem dX4_cellsEqualTo_20 : decode cX4_cellsEqualTo 20 = .ok (.iconst 1, 1) := by decide +kernel
theorem dX4_cellsEqualTo_21 : decode cX4_cellsEqualTo 21 = .ok (.iload_n 3, 1) := by decide +kernel
theorem dX4_cellsEqualTo_22 : decode cX4_cellsEqualTo 22 = .ok (.ishl, 1) := by decide +kernel
theorem dX4_cellsEqualTo_23 : decode cX4_cellsEqualTo 23 = .ok (.ior, 1) := by decide +kernel
theorem dX4_cellsEqualTo_24 : decode cX4_cellsEqualTo 24 = .ok (.istore_n 2, 1) := by decide +kernel
theorem dX4_cellsEqualTo_25 : decode cX4_cellsEqualTo 25 = .ok (.iinc 3 1, 3) := by decide +kernel
theorem dX4_cellsEqualTo_28 : decode cX4_cellsEqualTo 28 = .ok (.goto (-24), 3) := by decide +kernel
theorem dX4_cellsEqualTo_31 : decode cX4_cellsEqualTo 31 = .ok (.iload_n 2, 1) := by decide +kernel
theorem dX4_cellsEqualTo_32 : decode cX4_cellsEqualTo 32 = .ok (.ireturn, 1) := by decide +kernel
theorem dX4_isAlwaysSame_0 : decode cX4_isAlwaysSame 0 = .ok (.aload_n 0, 1) := by decide +kernel
theorem dX4_isAlwaysSame_1 : decode cX4_isAlwaysSame 1 = .ok (.invokevirtual 39, 3) := by decide +kernel
theorem dX4_isAlwaysSame_4 : decode cX4_isAlwaysSame 4 = .ok (.istore_n 3, 1) := by decide +kernel
theorem dX4_isAlwaysSame_5 : decode cX4_isAlwaysSame 5 = .ok (.iconst 0, 1) := by decide +kernel
theorem dX4_isAlwaysSame_6 : decode cX4_isAlwaysSame 6 = .ok (.istore 4, 2) := by decide +kernel
theorem dX4_isAlwaysSame_8 : decode cX4_isAlwaysSame 8 = .ok (.iload 4, 2) := by decide +kernel
theorem dX4_isAlwaysSame_10 : decode cX4_isAlwaysSame 10 = .ok (.iload_n 3, 1) := by decide +kernel
theorem dX4_isAlwaysSame_11 : decode cX4_isAlwaysSame 11 = .ok (.if_icmp .ge 34, 3) := by decide +kernel
theorem dX4_isAlwaysSame_14 : decode cX4_isAlwaysSame 14 = .ok (.aload_n 0, 1) := by decide +kernel
theorem dX4_isAlwaysSame_15 : decode cX4_isAlwaysSame 15 = .ok (.getfield 12, 3) := by decide +kernel
theorem dX4_isAlwaysSame_18 : decode cX4_isAlwaysSame 18 = .ok (.iload 4, 2) := by decide +kernel
theorem dX4_isAlwaysSame_20 : decode cX4_isAlwaysSame 20 = .ok (.iload_n 1, 1) := by decide +kernel
theorem dX4_isAlwaysSame_21 : decode cX4_isAlwaysSame 21 = .ok (.invokevirtual 55, 3) := by decide +kernel
theorem dX4_isAlwaysSame_24 : decode cX4_isAlwaysSame 24 = .ok (.aload_n 0, 1) := by decide +kernel
theorem dX4_isAlwaysSame_25 : decode cX4_isAlwaysSame 25 = .ok (.getfield 18, 3) := by decide +kernel
theorem dX4_isAlwaysSame_28 : decode cX4_isAlwaysSame 28 = .ok (.iload 4, 2) := by decide +kernel
theorem dX4_isAlwaysSame_30 : decode cX4_isAlwaysSame 30 = .ok (.iload_n 2, 1) := by decide +kernel
theorem dX4_isAlwaysSame_31 : decode cX4_isAlwaysSame 31 = .ok (.invokevirtual 55, 3) := by decide +kernel
theorem dX4_isAlwaysSame_34 : decode cX4_isAlwaysSame 34 = .ok (.if_icmp .eq 5, 3) := by decide +kernel
theorem dX4_isAlwaysSame_37 : decode cX4_isAlwaysSame 37 = .ok (.iconst 0, 1) := by decide +kernel
theorem dX4_isAlwaysSame_38 : decode cX4_isAlwaysSame 38 = .ok (.ireturn, 1) := by decide +kernel
theorem dX4_isAlwaysSame_39 : decode cX4_isAlwaysSame 39 = .ok (.iinc 4 1, 3) := by decide +kernel
theorem dX4_isAlwaysSame_42 : decode cX4_isAlwaysSame 42 = .ok (.goto (-34), 3) := by decide +kernel
theorem dX4_isAlwaysSame_45 : decode cX4_isAlwaysSame 45 = .ok (.iconst 1, 1) := by decide +kernel
theorem dX4_isAlwaysSame_46 : decode cX4_isAlwaysSame 46 = .ok (.ireturn, 1) := by decide +kernel
theorem dX4_inAgreement_0 : decode cX4_inAgreement 0 = .ok (.aload_n 0, 1) := by decide +kernel
theorem dX4_inAgreement_1 : decode cX4_inAgreement 1 = .ok (.getfield 12, 3) := by decide +kernel
theorem dX4_inAgreement_4 : decode cX4_inAgreement 4 = .ok (.getfield 62, 3) := by decide +kernel
theorem dX4_inAgreement_7 : decode cX4_inAgreement 7 = .ok (.getfield 66, 3) := by decide +kernel
theorem dX4_inAgreement_10 : decode cX4_inAgreement 10 = .ok (.ifCond .ne 40, 3) := by decide +kernel
theorem dX4_inAgreement_13 : decode cX4_inAgreement 13 = .ok (.aload_n 0, 1) := by decide +kernel
theorem dX4_inAgreement_14 : decode cX4_inAgreement 14 = .ok (.getfield 18, 3) := by decide +kernel
theorem dX4_inAgreement_17 : decode cX4_inAgreement 17 = .ok (.getfield 62, 3) := by decide +kernel
theorem dX4_inAgreement_20 : decode cX4_inAgreement 20 = .ok (.getfield 66, 3) := by decide +kernel
theorem dX4_inAgreement_23 : decode cX4_inAgreement 23 = .ok (.ifCond .ne 27, 3) := by decide +kernel
theorem dX4_inAgreement_26 : decode cX4_inAgreement 26 = .ok (.aload_n 0, 1) := by decide +kernel
theorem dX4_inAgreement_27 : decode cX4_inAgreement 27 = .ok (.getfield 12, 3) := by decide +kernel
theorem dX4_inAgreement_30 : decode cX4_inAgreement 30 = .ok (.getfield 62, 3) := by decide +kernel
theorem dX4_inAgreement_33 : decode cX4_inAgreement 33 = .ok (.aload_n 0, 1) := by decide +kernel
theorem dX4_inAgreement_34 : decode cX4_inAgreement 34 = .ok (.getfield 18, 3) := by decide +kernel
theorem dX4_inAgreement_37 : decode cX4_inAgreement 37 = .ok (.getfield 62, 3) := by decide +kernel
theorem dX4_inAgreement_40 : decode cX4_inAgreement 40 = .ok (.invokevirtual 72, 3) := by decide +kernel
theorem dX4_inAgreement_43 : decode cX4_inAgreement 43 = .ok (.ifCond .eq 7, 3) := by decide +kernel
theorem dX4_inAgreement_46 : decode cX4_inAgreement 46 = .ok (.iconst 1, 1) := by decide +kernel
theorem dX4_inAgreement_47 : decode cX4_inAgreement 47 = .ok (.goto 4, 3) := by decide +kernel
theorem dX4_inAgreement_50 : decode cX4_inAgreement 50 = .ok (.iconst 0, 1) := by decide +kernel
theorem dX4_inAgreement_51 : decode cX4_inAgreement 51 = .ok (.ireturn, 1) := by decide +kernel
theorem dX5_init_0 : decode cX5_init 0 = .ok (.aload_n 0, 1) := by decide +kernel
theorem dX5_init_1 : decode cX5_init 1 = .ok (.invokespecial 3, 3) := by decide +kernel
theorem dX5_init_4 : decode cX5_init 4 = .ok (.aload_n 0, 1) := by decide +kernel
theorem dX5_init_5 : decode cX5_init 5 = .ok (.bipush 120, 2) := by decide +kernel
theorem dX5_init_7 : decode cX5_init 7 = .ok (.newarray .char, 2) := by decide +kernel
theorem dX5_init_9 : decode cX5_init 9 = .ok (.putfield 9, 3) := by decide +kernel
theorem dX5_init_12 : decode cX5_init 12 = .ok (.return_, 1) := by decide +kernel
theorem dX5_isFull_0 : decode cX5_isFull 0 = .ok (.aload_n 0, 1) := by decide +kernel
theorem dX5_isFull_1 : decode cX5_isFull 1 = .ok (.getfield 15, 3) := by decide +kernel
theorem dX5_isFull_4 : decode cX5_isFull 4 = .ok (.bipush 120, 2) := by decide +kernel
theorem dX5_isFull_6 : decode cX5_isFull 6 = .ok (.if_icmp .lt 7, 3) := by decide +kernel
theorem dX5_isFull_9 : decode cX5_isFull 9 = .ok (.iconst 1, 1) := by decide +kernel
theorem dX5_isFull_10 : decode cX5_isFull 10 = .ok (.goto 4, 3) := by decide +kernel
theorem dX5_isFull_13 : decode cX5_isFull 13 = .ok (.iconst 0, 1) := by decide +kernel
theorem dX5_isFull_14 : decode cX5_isFull 14 = .ok (.ireturn, 1) := by decide +kernel
theorem dX5_add_0 : decode cX5_add 0 = .ok (.aload_n 0, 1) := by decide +kernel
theorem dX5_add_1 : decode cX5_add 1 = .ok (.getfield 15, 3) := by decide +kernel
theorem dX5_add_4 : decode cX5_add 4 = .ok (.iconst 0, 1) := by decide +kernel
theorem dX5_add_5 : decode cX5_add 5 = .ok (.bipush 119, 2) := by decide +kernel
theorem dX5_add_7 : decode cX5_add 7 = .ok (.invokestatic 19, 3) := by decide +kernel
theorem dX5_add_10 : decode cX5_add 10 = .ok (.ifCond .eq 23, 3) := by decide +kernel
theorem dX5_add_13 : decode cX5_add 13 = .ok (.aload_n 0, 1) := by decide +kernel
theorem dX5_add_14 : decode cX5_add 14 = .ok (.getfield 9, 3) := by decide +kernel
theorem dX5_add_17 : decode cX5_add 17 = .ok (.aload_n 0, 1) := by decide +kernel
theorem dX5_add_18 : decode cX5_add 18 = .ok (.getfield 15, 3) := by decide +kernel
theorem dX5_add_21 : decode cX5_add 21 = .ok (.iload_n 1, 1) := by decide +kernel
theorem dX5_add_22 : decode cX5_add 22 = .ok (.castore, 1) := by decide +kernel
theorem dX5_add_23 : decode cX5_add 23 = .ok (.aload_n 0, 1) := by decide +kernel
theorem dX5_add_24 : decode cX5_add 24 = .ok (.dup, 1) := by decide +kernel
theorem dX5_add_25 : decode cX5_add 25 = .ok (.getfield 15, 3) := by decide +kernel
theorem dX5_add_28 : decode cX5_add 28 = .ok (.iconst 1, 1) := by decide +kernel
theorem dX5_add_29 : decode cX5_add 29 = .ok (.iadd, 1) := by decide +kernel
theorem dX5_add_30 : decode cX5_add 30 = .ok (.putfield 15, 3) := by decide +kernel
theorem dX5_add_33 : decode cX5_add 33 = .ok (.return_, 1) := by decide +kernel
theorem dX5_signAt_0 : decode cX5_signAt 0 = .ok (.iload_n 1, 1) := by decide +kernel
theorem dX5_signAt_1 : decode cX5_signAt 1 = .ok (.iconst 0, 1) := by decide +kernel
theorem dX5_signAt_2 : decode cX5_signAt 2 = .ok (.aload_n 0, 1) := by decide +kernel
theorem dX5_signAt_3 : decode cX5_signAt 3 = .ok (.getfield 15, 3) := by decide +kernel
theorem dX5_signAt_6 : decode cX5_signAt 6 = .ok (.bipush 120, 2) := by decide +kernel
theorem dX5_signAt_8 : decode cX5_signAt 8 = .ok (.invokestatic 23, 3) := by decide +kernel
theorem dX5_signAt_11 : decode cX5_signAt 11 = .ok (.iconst 1, 1) := by decide +kernel
theorem dX5_signAt_12 : decode cX5_signAt 12 = .ok (.isub, 1) := by decide +kernel
theorem dX5_signAt_13 : decode cX5_signAt 13 = .ok (.invokestatic 19, 3) := by decide +kernel
theorem dX5_signAt_16 : decode cX5_signAt 16 = .ok (.ifCond .eq 12, 3) := by decide +kernel
theorem dX5_signAt_19 : decode cX5_signAt 19 = .ok (.aload_n 0, 1) := by decide +kernel
theorem dX5_signAt_20 : decode cX5_signAt 20 = .ok (.getfield 9, 3) := by decide +kernel
theorem dX5_signAt_23 : decode cX5_signAt 23 = .ok (.iload_n 1, 1) := by decide +kernel
theorem dX5_signAt_24 : decode cX5_signAt 24 = .ok (.caload, 1) := by decide +kernel
theorem dX5_signAt_25 : decode cX5_signAt 25 = .ok (.goto 4, 3) := by decide +kernel
theorem dX5_signAt_28 : decode cX5_signAt 28 = .ok (.iconst 0, 1) := by decide +kernel
theorem dX5_signAt_29 : decode cX5_signAt 29 = .ok (.ireturn, 1) := by decide +kernel
theorem dX6_init_0 : decode cX6_init 0 = .ok (.aload_n 0, 1) := by decide +kernel
theorem dX6_init_1 : decode cX6_init 1 = .ok (.invokespecial 3, 3) := by decide +kernel
theorem dX6_init_4 : decode cX6_init 4 = .ok (.aload_n 0, 1) := by decide +kernel
theorem dX6_init_5 : decode cX6_init 5 = .ok (.new 9, 3) := by decide +kernel
theorem dX6_init_8 : decode cX6_init 8 = .ok (.dup, 1) := by decide +kernel
theorem dX6_init_9 : decode cX6_init 9 = .ok (.invokespecial 11, 3) := by decide +kernel
theorem dX6_init_12 : decode cX6_init 12 = .ok (.putfield 12, 3) := by decide +kernel
theorem dX6_init_15 : decode cX6_init 15 = .ok (.aload_n 0, 1) := by decide +kernel
theorem dX6_init_16 : decode cX6_init 16 = .ok (.bipush 6, 2) := by decide +kernel
theorem dX6_init_18 : decode cX6_init 18 = .ok (.newarray .int, 2) := by decide +kernel
theorem dX6_init_20 : decode cX6_init 20 = .ok (.putfield 18, 3) := by decide +kernel
theorem dX6_init_23 : decode cX6_init 23 = .ok (.aload_n 0, 1) := by decide +kernel
theorem dX6_init_24 : decode cX6_init 24 = .ok (.sipush 240, 3) := by decide +kernel
theorem dX6_init_27 : decode cX6_init 27 = .ok (.newarray .int, 2) := by decide +kernel
theorem dX6_init_29 : decode cX6_init 29 = .ok (.putfield 22, 3) := by decide +kernel
theorem dX6_init_32 : decode cX6_init 32 = .ok (.aload_n 0, 1) := by decide +kernel
theorem dX6_init_33 : decode cX6_init 33 = .ok (.bipush 40, 2) := by decide +kernel
theorem dX6_init_35 : decode cX6_init 35 = .ok (.newarray .int, 2) := by decide +kernel
theorem dX6_init_37 : decode cX6_init 37 = .ok (.putfield 25, 3) := by decide +kernel
theorem dX6_init_40 : decode cX6_init 40 = .ok (.aload_n 0, 1) := by decide +kernel
theorem dX6_init_41 : decode cX6_init 41 = .ok (.bipush 60, 2) := by decide +kernel
theorem dX6_init_43 : decode cX6_init 43 = .ok (.newarray .int, 2) := by decide +kernel
theorem dX6_init_45 : decode cX6_init 45 = .ok (.putfield 28, 3) := by decide +kernel
theorem dX6_init_48 : decode cX6_init 48 = .ok (.return_, 1) := by decide +kernel
theorem dX6_follow_0 : decode cX6_follow 0 = .ok (.aload_n 0, 1) := by decide +kernel
theorem dX6_follow_1 : decode cX6_follow 1 = .ok (.iload_n 2, 1) := by decide +kernel
theorem dX6_follow_2 : decode cX6_follow 2 = .ok (.iload_n 3, 1) := by decide +kernel
theorem dX6_follow_3 : decode cX6_follow 3 = .ok (.invokevirtual 31, 3) := by decide +kernel
theorem dX6_follow_6 : decode cX6_follow 6 = .ok (.iconst 0, 1) := by decide +kernel
theorem dX6_follow_7 : decode cX6_follow 7 = .ok (.istore 4, 2) := by decide +kernel
theorem dX6_follow_9 : decode cX6_follow 9 = .ok (.iconst 0, 1) := by decide +kernel
theorem dX6_follow_10 : decode cX6_follow 10 = .ok (.istore 5, 2) := by decide +kernel
theorem dX6_follow_12 : decode cX6_follow 12 = .ok (.iload 5, 2) := by decide +kernel
theorem dX6_follow_14 : decode cX6_follow 14 = .ok (.sipush 400, 3) := by decide +kernel
theorem dX6_follow_17 : decode cX6_follow 17 = .ok (.if_icmp .ge 37, 3) := by decide +kernel
theorem dX6_follow_20 : decode cX6_follow 20 = .ok (.aload_n 1, 1) := by decide +kernel
theorem dX6_follow_21 : decode cX6_follow 21 = .ok (.iload 4, 2) := by decide +kernel
theorem dX6_follow_23 : decode cX6_follow 23 = .ok (.invokevirtual 35, 3) := by decide +kernel
theorem dX6_follow_26 : decode cX6_follow 26 = .ok (.ifCond .eq 28, 3) := by decide +kernel
theorem dX6_follow_29 : decode cX6_follow 29 = .ok (.aload_n 0, 1) := by decide +kernel
theorem dX6_follow_30 : decode cX6_follow 30 = .ok (.aload_n 1, 1) := by decide +kernel
theorem dX6_follow_31 : decode cX6_follow 31 = .ok (.iload 4, 2) := by decide +kernel
theorem dX6_follow_33 : decode cX6_follow 33 = .ok (.invokevirtual 41, 3) := by decide +kernel
theorem dX6_follow_36 : decode cX6_follow 36 = .ok (.istore 4, 2) := by decide +kernel
theorem dX6_follow_38 : decode cX6_follow 38 = .ok (.aload_n 0, 1) := by decide +kernel
theorem dX6_follow_39 : decode cX6_follow 39 = .ok (.dup, 1) := by decide +kernel
theorem dX6_follow_40 : decode cX6_follow 40 = .ok (.getfield 45, 3) := by decide +kernel
theorem dX6_follow_43 : decode cX6_follow 43 = .ok (.iconst 1, 1) := by decide +kernel
theorem dX6_follow_44 : decode cX6_follow 44 = .ok (.iadd, 1) := by decide +kernel
theorem dX6_follow_45 : decode cX6_follow 45 = .ok (.putfield 45, 3) := by decide +kernel
theorem dX6_follow_48 : decode cX6_follow 48 = .ok (.iinc 5 1, 3) := by decide +kernel
theorem dX6_follow_51 : decode cX6_follow 51 = .ok (.goto (-39), 3) := by decide +kernel
theorem dX6_follow_54 : decode cX6_follow 54 = .ok (.aload_n 0, 1) := by decide +kernel
theorem dX6_follow_55 : decode cX6_follow 55 = .ok (.getfield 12, 3) := by decide +kernel
theorem dX6_follow_58 : decode cX6_follow 58 = .ok (.aload_n 1, 1) := by decide +kernel
theorem dX6_follow_59 : decode cX6_follow 59 = .ok (.iload 4, 2) := by decide +kernel
theorem dX6_follow_61 : decode cX6_follow 61 = .ok (.invokevirtual 35, 3) := by decide +kernel
theorem dX6_follow_64 : decode cX6_follow 64 = .ok (.putfield 49, 3) := by decide +kernel
theorem dX6_follow_67 : decode cX6_follow 67 = .ok (.return_, 1) := by decide +kernel
theorem dX6_begin_0 : decode cX6_begin 0 = .ok (.iconst 0, 1) := by decide +kernel
theorem dX6_begin_1 : decode cX6_begin 1 = .ok (.istore_n 3, 1) := by decide +kernel
theorem dX6_begin_2 : decode cX6_begin 2 = .ok (.iload_n 3, 1) := by decide +kernel
theorem dX6_begin_3 : decode cX6_begin 3 = .ok (.bipush 6, 2) := by decide +kernel
theorem dX6_begin_5 : decode cX6_begin 5 = .ok (.if_icmp .ge 16, 3) := by decide +kernel
theorem dX6_begin_8 : decode cX6_begin 8 = .ok (.aload_n 0, 1) := by decide +kernel
theorem dX6_begin_9 : decode cX6_begin 9 = .ok (.getfield 18, 3) := by decide +kernel
theorem dX6_begin_12 : decode cX6_begin 12 = .ok (.iload_n 3, 1) := by decide +kernel
theorem dX6_begin_13 : decode cX6_begin 13 = .ok (.iconst 0, 1) := by decide +kernel
theorem dX6_begin_14 : decode cX6_begin 14 = .ok (.iastore, 1) := by decide +kernel
theorem dX6_begin_15 : decode cX6_begin 15 = .ok (.iinc 3 1, 3) := by decide +kernel
theorem dX6_begin_18 : decode cX6_begin 18 = .ok (.goto (-16), 3) := by decide +kernel
theorem dX6_begin_21 : decode cX6_begin 21 = .ok (.aload_n 0, 1) := by decide +kernel
theorem dX6_begin_22 : decode cX6_begin 22 = .ok (.getfield 18, 3) := by decide +kernel
theorem dX6_begin_25 : decode cX6_begin 25 = .ok (.iconst 0, 1) := by decide +kernel
theorem dX6_begin_26 : decode cX6_begin 26 = .ok (.iload_n 1, 1) := by decide +kernel
theorem dX6_begin_27 : decode cX6_begin 27 = .ok (.iastore, 1) := by decide +kernel
theorem dX6_begin_28 : decode cX6_begin 28 = .ok (.aload_n 0, 1) := by decide +kernel
theorem dX6_begin_29 : decode cX6_begin 29 = .ok (.getfield 18, 3) := by decide +kernel
theorem dX6_begin_32 : decode cX6_begin 32 = .ok (.iconst 1, 1) := by decide +kernel
theorem dX6_begin_33 : decode cX6_begin 33 = .ok (.iload_n 2, 1) := by decide +kernel
theorem dX6_begin_34 : decode cX6_begin 34 = .ok (.iastore, 1) := by decide +kernel
theorem dX6_begin_35 : decode cX6_begin 35 = .ok (.iconst 0, 1) := by decide +kernel
theorem dX6_begin_36 : decode cX6_begin 36 = .ok (.istore_n 3, 1) := by decide +kernel
theorem dX6_begin_37 : decode cX6_begin 37 = .ok (.iload_n 3, 1) := by decide +kernel
theorem dX6_begin_38 : decode cX6_begin 38 = .ok (.bipush 60, 2) := by decide +kernel
theorem dX6_begin_40 : decode cX6_begin 40 = .ok (.if_icmp .ge 16, 3) := by decide +kernel
theorem dX6_begin_43 : decode cX6_begin 43 = .ok (.aload_n 0, 1) := by decide +kernel
theorem dX6_begin_44 : decode cX6_begin 44 = .ok (.getfield 28, 3) := by decide +kernel
theorem dX6_begin_47 : decode cX6_begin 47 = .ok (.iload_n 3, 1) := by decide +kernel
theorem dX6_begin_48 : decode cX6_begin 48 = .ok (.iconst 0, 1) := by decide +kernel
theorem dX6_begin_49 : decode cX6_begin 49 = .ok (.iastore, 1) := by decide +kernel
theorem dX6_begin_50 : decode cX6_begin 50 = .ok (.iinc 3 1, 3) := by decide +kernel
theorem dX6_begin_53 : decode cX6_begin 53 = .ok (.goto (-16), 3) := by decide +kernel
theorem dX6_begin_56 : decode cX6_begin 56 = .ok (.aload_n 0, 1) := by decide +kernel
theorem dX6_begin_57 : decode cX6_begin 57 = .ok (.getfield 12, 3) := by decide +kernel
theorem dX6_begin_60 : decode cX6_begin 60 = .ok (.invokevirtual 53, 3) := by decide +kernel
theorem dX6_begin_63 : decode cX6_begin 63 = .ok (.aload_n 0, 1) := by decide +kernel
theorem dX6_begin_64 : decode cX6_begin 64 = .ok (.iconst 0, 1) := by decide +kernel
theorem dX6_begin_65 : decode cX6_begin 65 = .ok (.putfield 45, 3) := by decide +kernel
theorem dX6_begin_68 : decode cX6_begin 68 = .ok (.aload_n 0, 1) := by decide +kernel
theorem dX6_begin_69 : decode cX6_begin 69 = .ok (.iconst 0, 1) := by decide +kernel
theorem dX6_begin_70 : decode cX6_begin 70 = .ok (.putfield 55, 3) := by decide +kernel
theorem dX6_begin_73 : decode cX6_begin 73 = .ok (.aload_n 0, 1) := by decide +kernel
theorem dX6_begin_74 : decode cX6_begin 74 = .ok (.iconst 0, 1) := by decide +kernel
theorem dX6_begin_75 : decode cX6_begin 75 = .ok (.putfield 58, 3) := by decide +kernel
theorem dX6_begin_78 : decode cX6_begin 78 = .ok (.aload_n 0, 1) := by decide +kernel
theorem dX6_begin_79 : decode cX6_begin 79 = .ok (.iconst 0, 1) := by decide +kernel
theorem dX6_begin_80 : decode cX6_begin 80 = .ok (.putfield 61, 3) := by decide +kernel
theorem dX6_begin_83 : decode cX6_begin 83 = .ok (.return_, 1) := by decide +kernel
theorem dX6_stepFrom_0 : decode cX6_stepFrom 0 = .ok (.aload_n 1, 1) := by decide +kernel
theorem dX6_stepFrom_1 : decode cX6_stepFrom 1 = .ok (.iload_n 2, 1) := by decide +kernel
theorem dX6_stepFrom_2 : decode cX6_stepFrom 2 = .ok (.invokevirtual 64, 3) := by decide +kernel
theorem dX6_stepFrom_5 : decode cX6_stepFrom 5 = .ok (.tableswitch 91 1 4 #[31, 52, 74, 84], 31) := by decide +kernel
theorem dX6_stepFrom_36 : decode cX6_stepFrom 36 = .ok (.aload_n 0, 1) := by decide +kernel
theorem dX6_stepFrom_37 : decode cX6_stepFrom 37 = .ok (.aload_n 1, 1) := by decide +kernel
theorem dX6_stepFrom_38 : decode cX6_stepFrom 38 = .ok (.iload_n 2, 1) := by decide +kernel
theorem dX6_stepFrom_39 : decode cX6_stepFrom 39 = .ok (.invokevirtual 68, 3) := by decide +kernel
theorem dX6_stepFrom_42 : decode cX6_stepFrom 42 = .ok (.aload_n 0, 1) := by decide +kernel
theorem dX6_stepFrom_43 : decode cX6_stepFrom 43 = .ok (.aload_n 1, 1) := by decide +kernel
theorem dX6_stepFrom_44 : decode cX6_stepFrom 44 = .ok (.iload_n 2, 1) := by decide +kernel
theorem dX6_stepFrom_45 : decode cX6_stepFrom 45 = .ok (.invokevirtual 71, 3) := by decide +kernel
theorem dX6_stepFrom_48 : decode cX6_stepFrom 48 = .ok (.invokevirtual 74, 3) := by decide +kernel
theorem dX6_stepFrom_51 : decode cX6_stepFrom 51 = .ok (.aload_n 1, 1) := by decide +kernel
theorem dX6_stepFrom_52 : decode cX6_stepFrom 52 = .ok (.iload_n 2, 1) := by decide +kernel
theorem dX6_stepFrom_53 : decode cX6_stepFrom 53 = .ok (.invokevirtual 77, 3) := by decide +kernel
theorem dX6_stepFrom_56 : decode cX6_stepFrom 56 = .ok (.ireturn, 1) := by decide +kernel
theorem dX6_stepFrom_57 : decode cX6_stepFrom 57 = .ok (.aload_n 0, 1) := by decide +kernel
theorem dX6_stepFrom_58 : decode cX6_stepFrom 58 = .ok (.getfield 12, 3) := by decide +kernel
theorem dX6_stepFrom_61 : decode cX6_stepFrom 61 = .ok (.aload_n 0, 1) := by decide +kernel
theorem dX6_stepFrom_62 : decode cX6_stepFrom 62 = .ok (.aload_n 1, 1) := by decide +kernel
theorem dX6_stepFrom_63 : decode cX6_stepFrom 63 = .ok (.iload_n 2, 1) := by decide +kernel
theorem dX6_stepFrom_64 : decode cX6_stepFrom 64 = .ok (.invokevirtual 68, 3) := by decide +kernel
theorem dX6_stepFrom_67 : decode cX6_stepFrom 67 = .ok (.invokevirtual 80, 3) := by decide +kernel
theorem dX6_stepFrom_70 : decode cX6_stepFrom 70 = .ok (.invokevirtual 83, 3) := by decide +kernel
theorem dX6_stepFrom_73 : decode cX6_stepFrom 73 = .ok (.aload_n 1, 1) := by decide +kernel
theorem dX6_stepFrom_74 : decode cX6_stepFrom 74 = .ok (.iload_n 2, 1) := by decide +kernel
theorem dX6_stepFrom_75 : decode cX6_stepFrom 75 = .ok (.invokevirtual 77, 3) := by decide +kernel
theorem dX6_stepFrom_78 : decode cX6_stepFrom 78 = .ok (.ireturn, 1) := by decide +kernel
theorem dX6_stepFrom_79 : decode cX6_stepFrom 79 = .ok (.aload_n 0, 1) := by decide +kernel
theorem dX6_stepFrom_80 : decode cX6_stepFrom 80 = .ok (.invokevirtual 87, 3) := by decide +kernel
theorem dX6_stepFrom_83 : decode cX6_stepFrom 83 = .ok (.aload_n 1, 1) := by decide +kernel
theorem dX6_stepFrom_84 : decode cX6_stepFrom 84 = .ok (.iload_n 2, 1) := by decide +kernel
theorem dX6_stepFrom_85 : decode cX6_stepFrom 85 = .ok (.invokevirtual 77, 3) := by decide +kernel
theorem dX6_stepFrom_88 : decode cX6_stepFrom 88 = .ok (.ireturn, 1) := by decide +kernel
theorem dX6_stepFrom_89 : decode cX6_stepFrom 89 = .ok (.aload_n 0, 1) := by decide +kernel
theorem dX6_stepFrom_90 : decode cX6_stepFrom 90 = .ok (.aload_n 1, 1) := by decide +kernel
theorem dX6_stepFrom_91 : decode cX6_stepFrom 91 = .ok (.iload_n 2, 1) := by decide +kernel
theorem dX6_stepFrom_92 : decode cX6_stepFrom 92 = .ok (.invokevirtual 90, 3) := by decide +kernel
theorem dX6_stepFrom_95 : decode cX6_stepFrom 95 = .ok (.ireturn, 1) := by decide +kernel
theorem dX6_stepFrom_96 : decode cX6_stepFrom 96 = .ok (.aload_n 0, 1) := by decide +kernel
theorem dX6_stepFrom_97 : decode cX6_stepFrom 97 = .ok (.aload_n 1, 1) := by decide +kernel
theorem dX6_stepFrom_98 : decode cX6_stepFrom 98 = .ok (.iload_n 2, 1) := by decide +kernel
theorem dX6_stepFrom_99 : decode cX6_stepFrom 99 = .ok (.invokevirtual 68, 3) := by decide +kernel
theorem dX6_stepFrom_102 : decode cX6_stepFrom 102 = .ok (.invokevirtual 80, 3) := by decide +kernel
theorem dX6_stepFrom_105 : decode cX6_stepFrom 105 = .ok (.ifCond .le 11, 3) := by decide +kernel
theorem dX6_stepFrom_108 : decode cX6_stepFrom 108 = .ok (.aload_n 1, 1) := by decide +kernel
theorem dX6_stepFrom_109 : decode cX6_stepFrom 109 = .ok (.iload_n 2, 1) := by decide +kernel
theorem dX6_stepFrom_110 : decode cX6_stepFrom 110 = .ok (.invokevirtual 93, 3) := by decide +kernel
theorem dX6_stepFrom_113 : decode cX6_stepFrom 113 = .ok (.goto 8, 3) := by decide +kernel
theorem dX6_stepFrom_116 : decode cX6_stepFrom 116 = .ok (.aload_n 1, 1) := by decide +kernel
theorem dX6_stepFrom_117 : decode cX6_stepFrom 117 = .ok (.iload_n 2, 1) := by decide +kernel
theorem dX6_stepFrom_118 : decode cX6_stepFrom 118 = .ok (.invokevirtual 96, 3) := by decide +kernel
theorem dX6_stepFrom_121 : decode cX6_stepFrom 121 = .ok (.ireturn, 1) := by decide +kernel
theorem dX6_look_0 : decode cX6_look 0 = .ok (.aload_n 0, 1) := by decide +kernel
theorem dX6_look_1 : decode cX6_look 1 = .ok (.aload_n 1, 1) := by decide +kernel
theorem dX6_look_2 : decode cX6_look 2 = .ok (.iload_n 2, 1) := by decide +kernel
theorem dX6_look_3 : decode cX6_look 3 = .ok (.invokevirtual 68, 3) := by decide +kernel
theorem dX6_look_6 : decode cX6_look 6 = .ok (.invokevirtual 80, 3) := by decide +kernel
theorem dX6_look_9 : decode cX6_look 9 = .ok (.ifCond .le 7, 3) := by decide +kernel
theorem dX6_look_12 : decode cX6_look 12 = .ok (.iconst 1, 1) := by decide +kernel
theorem dX6_look_13 : decode cX6_look 13 = .ok (.goto 4, 3) := by decide +kernel
theorem dX6_look_16 : decode cX6_look 16 = .ok (.iconst 0, 1) := by decide +kernel
theorem dX6_look_17 : decode cX6_look 17 = .ok (.istore_n 3, 1) := by decide +kernel
theorem dX6_look_18 : decode cX6_look 18 = .ok (.iload_n 2, 1) := by decide +kernel
theorem dX6_look_19 : decode cX6_look 19 = .ok (.iconst 0, 1) := by decide +kernel
theorem dX6_look_20 : decode cX6_look 20 = .ok (.bipush 59, 2) := by decide +kernel
theorem dX6_look_22 : decode cX6_look 22 = .ok (.invokestatic 99, 3) := by decide +kernel
theorem dX6_look_25 : decode cX6_look 25 = .ok (.ifCond .eq 42, 3) := by decide +kernel
theorem dX6_look_28 : decode cX6_look 28 = .ok (.aload_n 0, 1) := by decide +kernel
theorem dX6_look_29 : decode cX6_look 29 = .ok (.getfield 28, 3) := by decide +kernel
theorem dX6_look_32 : decode cX6_look 32 = .ok (.iload_n 2, 1) := by decide +kernel
theorem dX6_look_33 : decode cX6_look 33 = .ok (.iload_n 3, 1) := by decide +kernel
theorem dX6_look_34 : decode cX6_look 34 = .ok (.ifCond .eq 14, 3) := by decide +kernel
theorem dX6_look_37 : decode cX6_look 37 = .ok (.aload_n 0, 1) := by decide +kernel
theorem dX6_look_38 : decode cX6_look 38 = .ok (.getfield 28, 3) := by decide +kernel
theorem dX6_look_41 : decode cX6_look 41 = .ok (.iload_n 2, 1) := by decide +kernel
theorem dX6_look_42 : decode cX6_look 42 = .ok (.iaload, 1) := by decide +kernel
theorem dX6_look_43 : decode cX6_look 43 = .ok (.iconst 1, 1) := by decide +kernel
theorem dX6_look_44 : decode cX6_look 44 = .ok (.iadd, 1) := by decide +kernel
theorem dX6_look_45 : decode cX6_look 45 = .ok (.goto 4, 3) := by decide +kernel
theorem dX6_look_48 : decode cX6_look 48 = .ok (.iconst 0, 1) := by decide +kernel
theorem dX6_look_49 : decode cX6_look 49 = .ok (.iastore, 1) := by decide +kernel
theorem dX6_look_50 : decode cX6_look 50 = .ok (.aload_n 0, 1) := by decide +kernel
theorem dX6_look_51 : decode cX6_look 51 = .ok (.aload_n 0, 1) := by decide +kernel
theorem dX6_look_52 : decode cX6_look 52 = .ok (.getfield 61, 3) := by decide +kernel
theorem dX6_look_55 : decode cX6_look 55 = .ok (.aload_n 0, 1) := by decide +kernel
theorem dX6_look_56 : decode cX6_look 56 = .ok (.getfield 28, 3) := by decide +kernel
theorem dX6_look_59 : decode cX6_look 59 = .ok (.iload_n 2, 1) := by decide +kernel
theorem dX6_look_60 : decode cX6_look 60 = .ok (.iaload, 1) := by decide +kernel
theorem dX6_look_61 : decode cX6_look 61 = .ok (.invokestatic 103, 3) := by decide +kernel
theorem dX6_look_64 : decode cX6_look 64 = .ok (.putfield 61, 3) := by decide +kernel
theorem dX6_look_67 : decode cX6_look 67 = .ok (.iload_n 3, 1) := by decide +kernel
theorem dX6_look_68 : decode cX6_look 68 = .ok (.ifCond .eq 13, 3) := by decide +kernel
theorem dX6_look_71 : decode cX6_look 71 = .ok (.aload_n 0, 1) := by decide +kernel
theorem dX6_look_72 : decode cX6_look 72 = .ok (.dup, 1) := by decide +kernel
theorem dX6_look_73 : decode cX6_look 73 = .ok (.getfield 58, 3) := by decide +kernel
theorem dX6_look_76 : decode cX6_look 76 = .ok (.iconst 1, 1) := by decide +kernel
theorem dX6_look_77 : decode cX6_look 77 = .ok (.iadd, 1) := by decide +kernel
theorem dX6_look_78 : decode cX6_look 78 = .ok (.putfield 58, 3) := by decide +kernel
theorem dX6_look_81 : decode cX6_look 81 = .ok (.iload_n 3, 1) := by decide +kernel
theorem dX6_look_82 : decode cX6_look 82 = .ok (.ifCond .eq 11, 3) := by decide +kernel
theorem dX6_look_85 : decode cX6_look 85 = .ok (.aload_n 1, 1) := by decide +kernel
theorem dX6_look_86 : decode cX6_look 86 = .ok (.iload_n 2, 1) := by decide +kernel
theorem dX6_look_87 : decode cX6_look 87 = .ok (.invokevirtual 93, 3) := by decide +kernel
theorem dX6_look_90 : decode cX6_look 90 = .ok (.goto 8, 3) := by decide +kernel
theorem dX6_look_93 : decode cX6_look 93 = .ok (.aload_n 1, 1) := by decide +kernel
theorem dX6_look_94 : decode cX6_look 94 = .ok (.iload_n 2, 1) := by decide +kernel
theorem dX6_look_95 : decode cX6_look 95 = .ok (.invokevirtual 96, 3) := by decide +kernel
theorem dX6_look_98 : decode cX6_look 98 = .ok (.ireturn, 1) := by decide +kernel
theorem dX6_resultOf_0 : decode cX6_resultOf 0 = .ok (.aload_n 0, 1) := by decide +kernel
theorem dX6_resultOf_1 : decode cX6_resultOf 1 = .ok (.aload_n 1, 1) := by decide +kernel
theorem dX6_resultOf_2 : decode cX6_resultOf 2 = .ok (.iload_n 2, 1) := by decide +kernel
theorem dX6_resultOf_3 : decode cX6_resultOf 3 = .ok (.invokevirtual 109, 3) := by decide +kernel
theorem dX6_resultOf_6 : decode cX6_resultOf 6 = .ok (.invokevirtual 112, 3) := by decide +kernel
theorem dX6_resultOf_9 : decode cX6_resultOf 9 = .ok (.istore_n 3, 1) := by decide +kernel
theorem dX6_resultOf_10 : decode cX6_resultOf 10 = .ok (.aload_n 0, 1) := by decide +kernel
theorem dX6_resultOf_11 : decode cX6_resultOf 11 = .ok (.aload_n 1, 1) := by decide +kernel
theorem dX6_resultOf_12 : decode cX6_resultOf 12 = .ok (.iload_n 2, 1) := by decide +kernel
theorem dX6_resultOf_13 : decode cX6_resultOf 13 = .ok (.invokevirtual 115, 3) := by decide +kernel
theorem dX6_resultOf_16 : decode cX6_resultOf 16 = .ok (.invokevirtual 112, 3) := by decide +kernel
theorem dX6_resultOf_19 : decode cX6_resultOf 19 = .ok (.istore 4, 2) := by decide +kernel
theorem dX6_resultOf_21 : decode cX6_resultOf 21 = .ok (.aload_n 1, 1) := by decide +kernel
theorem dX6_resultOf_22 : decode cX6_resultOf 22 = .ok (.iload_n 2, 1) := by decide +kernel
theorem dX6_resultOf_23 : decode cX6_resultOf 23 = .ok (.invokevirtual 118, 3) := by decide +kernel
theorem dX6_resultOf_26 : decode cX6_resultOf 26 = .ok (.tableswitch 54 42 45 #[46, 30, 54, 38], 30) := by decide +kernel
theorem dX6_resultOf_56 : decode cX6_resultOf 56 = .ok (.iload_n 3, 1) := by decide +kernel
theorem dX6_resultOf_57 : decode cX6_resultOf 57 = .ok (.iload 4, 2) := by decide +kernel
theorem dX6_resultOf_59 : decode cX6_resultOf 59 = .ok (.iadd, 1) := by decide +kernel
theorem dX6_resultOf_60 : decode cX6_resultOf 60 = .ok (.invokestatic 121, 3) := by decide +kernel
theorem dX6_resultOf_63 : decode cX6_resultOf 63 = .ok (.ireturn, 1) := by decide +kernel
theorem dX6_resultOf_64 : decode cX6_resultOf 64 = .ok (.iload_n 3, 1) := by decide +kernel
theorem dX6_resultOf_65 : decode cX6_resultOf 65 = .ok (.iload 4, 2) := by decide +kernel
theorem dX6_resultOf_67 : decode cX6_resultOf 67 = .ok (.isub, 1) := by decide +kernel
theorem dX6_resultOf_68 : decode cX6_resultOf 68 = .ok (.invokestatic 121, 3) := by decide +kernel
theorem dX6_resultOf_71 : decode cX6_resultOf 71 = .ok (.ireturn, 1) := by decide +kernel
theorem dX6_resultOf_72 : decode cX6_resultOf 72 = .ok (.iload_n 3, 1) := by decide +kernel
theorem dX6_resultOf_73 : decode cX6_resultOf 73 = .ok (.iload 4, 2) := by decide +kernel
theorem dX6_resultOf_75 : decode cX6_resultOf 75 = .ok (.imul, 1) := by decide +kernel
theorem dX6_resultOf_76 : decode cX6_resultOf 76 = .ok (.invokestatic 121, 3) := by decide +kernel
theorem dX6_resultOf_79 : decode cX6_resultOf 79 = .ok (.ireturn, 1) := by decide +kernel
theorem dX6_resultOf_80 : decode cX6_resultOf 80 = .ok (.iload_n 3, 1) := by decide +kernel
theorem dX6_resultOf_81 : decode cX6_resultOf 81 = .ok (.ireturn, 1) := by decide +kernel
theorem dX6_termValue_0 : decode cX6_termValue 0 = .ok (.iload_n 1, 1) := by decide +kernel
theorem dX6_termValue_1 : decode cX6_termValue 1 = .ok (.sipush 1000, 3) := by decide +kernel
theorem dX6_termValue_4 : decode cX6_termValue 4 = .ok (.if_icmp .ge 7, 3) := by decide +kernel
theorem dX6_termValue_7 : decode cX6_termValue 7 = .ok (.iload_n 1, 1) := by decide +kernel
theorem dX6_termValue_8 : decode cX6_termValue 8 = .ok (.goto 12, 3) := by decide +kernel
theorem dX6_termValue_11 : decode cX6_termValue 11 = .ok (.aload_n 0, 1) := by decide +kernel
theorem dX6_termValue_12 : decode cX6_termValue 12 = .ok (.iload_n 1, 1) := by decide +kernel
theorem dX6_termValue_13 : decode cX6_termValue 13 = .ok (.sipush 1000, 3) := by decide +kernel
theorem dX6_termValue_16 : decode cX6_termValue 16 = .ok (.isub, 1) := by decide +kernel
theorem dX6_termValue_17 : decode cX6_termValue 17 = .ok (.invokevirtual 80, 3) := by decide +kernel
theorem dX6_termValue_20 : decode cX6_termValue 20 = .ok (.ireturn, 1) := by decide +kernel
theorem dX6_nearestValue_0 : decode cX6_nearestValue 0 = .ok (.sipush (-999), 3) := by decide +kernel
theorem dX6_nearestValue_3 : decode cX6_nearestValue 3 = .ok (.sipush 999, 3) := by decide +kernel
theorem dX6_nearestValue_6 : decode cX6_nearestValue 6 = .ok (.iload_n 0, 1) := by decide +kernel
theorem dX6_nearestValue_7 : decode cX6_nearestValue 7 = .ok (.invokestatic 124, 3) := by decide +kernel
theorem dX6_nearestValue_10 : decode cX6_nearestValue 10 = .ok (.invokestatic 103, 3) := by decide +kernel
theorem dX6_nearestValue_13 : decode cX6_nearestValue 13 = .ok (.ireturn, 1) := by decide +kernel
theorem dX6_setCell_0 : decode cX6_setCell 0 = .ok (.iload_n 1, 1) := by decide +kernel
theorem dX6_setCell_1 : decode cX6_setCell 1 = .ok (.invokestatic 127, 3) := by decide +kernel
theorem dX6_setCell_4 : decode cX6_setCell 4 = .ok (.ifCond .eq 10, 3) := by decide +kernel
theorem dX6_setCell_7 : decode cX6_setCell 7 = .ok (.aload_n 0, 1) := by decide +kernel
theorem dX6_setCell_8 : decode cX6_setCell 8 = .ok (.getfield 18, 3) := by decide +kernel
theorem dX6_setCell_11 : decode cX6_setCell 11 = .ok (.iload_n 1, 1) := by decide +kernel
theorem dX6_setCell_12 : decode cX6_setCell 12 = .ok (.iload_n 2, 1) := by decide +kernel
theorem dX6_setCell_13 : decode cX6_setCell 13 = .ok (.iastore, 1) := by decide +kernel
theorem dX6_setCell_14 : decode cX6_setCell 14 = .ok (.return_, 1) := by decide +kernel
theorem dX6_keepMark_0 : decode cX6_keepMark 0 = .ok (.aload_n 0, 1) := by decide +kernel
theorem dX6_keepMark_1 : decode cX6_keepMark 1 = .ok (.getfield 55, 3) := by decide +kernel
theorem dX6_keepMark_4 : decode cX6_keepMark 4 = .ok (.iconst 0, 1) := by decide +kernel
theorem dX6_keepMark_5 : decode cX6_keepMark 5 = .ok (.bipush 39, 2) := by decide +kernel
theorem dX6_keepMark_7 : decode cX6_keepMark 7 = .ok (.invokestatic 99, 3) := by decide +kernel
theorem dX6_keepMark_10 : decode cX6_keepMark 10 = .ok (.ifCond .eq 37, 3) := by decide +kernel
theorem dX6_keepMark_13 : decode cX6_keepMark 13 = .ok (.aload_n 0, 1) := by decide +kernel
theorem dX6_keepMark_14 : decode cX6_keepMark 14 = .ok (.getfield 25, 3) := by decide +kernel
theorem dX6_keepMark_17 : decode cX6_keepMark 17 = .ok (.aload_n 0, 1) := by decide +kernel
theorem dX6_keepMark_18 : decode cX6_keepMark 18 = .ok (.getfield 55, 3) := by decide +kernel
theorem dX6_keepMark_21 : decode cX6_keepMark 21 = .ok (.aload_n 0, 1) := by decide +kernel
theorem dX6_keepMark_22 : decode cX6_keepMark 22 = .ok (.getfield 45, 3) := by decide +kernel
theorem dX6_keepMark_25 : decode cX6_keepMark 25 = .ok (.iastore, 1) := by decide +kernel
theorem dX6_keepMark_26 : decode cX6_keepMark 26 = .ok (.aload_n 0, 1) := by decide +kernel
theorem dX6_keepMark_27 : decode cX6_keepMark 27 = .ok (.getfield 18, 3) := by decide +kernel
theorem dX6_keepMark_30 : decode cX6_keepMark 30 = .ok (.iconst 0, 1) := by decide +kernel
theorem dX6_keepMark_31 : decode cX6_keepMark 31 = .ok (.aload_n 0, 1) := by decide +kernel
theorem dX6_keepMark_32 : decode cX6_keepMark 32 = .ok (.getfield 22, 3) := by decide +kernel
theorem dX6_keepMark_35 : decode cX6_keepMark 35 = .ok (.aload_n 0, 1) := by decide +kernel
theorem dX6_keepMark_36 : decode cX6_keepMark 36 = .ok (.getfield 55, 3) := by decide +kernel
theorem dX6_keepMark_39 : decode cX6_keepMark 39 = .ok (.bipush 6, 2) := by decide +kernel
theorem dX6_keepMark_41 : decode cX6_keepMark 41 = .ok (.imul, 1) := by decide +kernel
theorem dX6_keepMark_42 : decode cX6_keepMark 42 = .ok (.bipush 6, 2) := by decide +kernel
theorem dX6_keepMark_44 : decode cX6_keepMark 44 = .ok (.invokestatic 130, 3) := by decide +kernel
theorem dX6_keepMark_47 : decode cX6_keepMark 47 = .ok (.aload_n 0, 1) := by decide +kernel
theorem dX6_keepMark_48 : decode cX6_keepMark 48 = .ok (.dup, 1) := by decide +kernel
theorem dX6_keepMark_49 : decode cX6_keepMark 49 = .ok (.getfield 55, 3) := by decide +kernel
theorem dX6_keepMark_52 : decode cX6_keepMark 52 = .ok (.iconst 1, 1) := by decide +kernel
theorem dX6_keepMark_53 : decode cX6_keepMark 53 = .ok (.iadd, 1) := by decide +kernel
theorem dX6_keepMark_54 : decode cX6_keepMark 54 = .ok (.putfield 55, 3) := by decide +kernel
theorem dX6_keepMark_57 : decode cX6_keepMark 57 = .ok (.return_, 1) := by decide +kernel
theorem dX6_marksKept_0 : decode cX6_marksKept 0 = .ok (.aload_n 0, 1) := by decide +kernel
theorem dX6_marksKept_1 : decode cX6_marksKept 1 = .ok (.getfield 55, 3) := by decide +kernel
theorem dX6_marksKept_4 : decode cX6_marksKept 4 = .ok (.bipush 40, 2) := by decide +kernel
theorem dX6_marksKept_6 : decode cX6_marksKept 6 = .ok (.invokestatic 124, 3) := by decide +kernel
theorem dX6_marksKept_9 : decode cX6_marksKept 9 = .ok (.ireturn, 1) := by decide +kernel
theorem dX6_valueOf_0 : decode cX6_valueOf 0 = .ok (.iload_n 1, 1) := by decide +kernel
theorem dX6_valueOf_1 : decode cX6_valueOf 1 = .ok (.invokestatic 127, 3) := by decide +kernel
theorem dX6_valueOf_4 : decode cX6_valueOf 4 = .ok (.ifCond .eq 12, 3) := by decide +kernel
theorem dX6_valueOf_7 : decode cX6_valueOf 7 = .ok (.aload_n 0, 1) := by decide +kernel
theorem dX6_valueOf_8 : decode cX6_valueOf 8 = .ok (.getfield 18, 3) := by decide +kernel
theorem dX6_valueOf_11 : decode cX6_valueOf 11 = .ok (.iload_n 1, 1) := by decide +kernel
theorem dX6_valueOf_12 : decode cX6_valueOf 12 = .ok (.iaload, 1) := by decide +kernel
theorem dX6_valueOf_13 : decode cX6_valueOf 13 = .ok (.goto 4, 3) := by decide +kernel
theorem dX6_valueOf_16 : decode cX6_valueOf 16 = .ok (.iconst 0, 1) := by decide +kernel
theorem dX6_valueOf_17 : decode cX6_valueOf 17 = .ok (.ireturn, 1) := by decide +kernel
theorem dX6_cellAtMark_0 : decode cX6_cellAtMark 0 = .ok (.iload_n 1, 1) := by decide +kernel
theorem dX6_cellAtMark_1 : decode cX6_cellAtMark 1 = .ok (.iconst 0, 1) := by decide +kernel
theorem dX6_cellAtMark_2 : decode cX6_cellAtMark 2 = .ok (.aload_n 0, 1) := by decide +kernel
theorem dX6_cellAtMark_3 : decode cX6_cellAtMark 3 = .ok (.invokevirtual 136, 3) := by decide +kernel
theorem dX6_cellAtMark_6 : decode cX6_cellAtMark 6 = .ok (.iconst 1, 1) := by decide +kernel
theorem dX6_cellAtMark_7 : decode cX6_cellAtMark 7 = .ok (.isub, 1) := by decide +kernel
theorem dX6_cellAtMark_8 : decode cX6_cellAtMark 8 = .ok (.invokestatic 99, 3) := by decide +kernel
theorem dX6_cellAtMark_11 : decode cX6_cellAtMark 11 = .ok (.ifCond .eq 14, 3) := by decide +kernel
theorem dX6_cellAtMark_14 : decode cX6_cellAtMark 14 = .ok (.iload_n 2, 1) := by decide +kernel
theorem dX6_cellAtMark_15 : decode cX6_cellAtMark 15 = .ok (.invokestatic 127, 3) := by decide +kernel
theorem dX6_cellAtMark_18 : decode cX6_cellAtMark 18 = .ok (.ifCond .eq 7, 3) := by decide +kernel
theorem dX6_cellAtMark_21 : decode cX6_cellAtMark 21 = .ok (.iconst 1, 1) := by decide +kernel
theorem dX6_cellAtMark_22 : decode cX6_cellAtMark 22 = .ok (.goto 4, 3) := by decide +kernel
theorem dX6_cellAtMark_25 : decode cX6_cellAtMark 25 = .ok (.iconst 0, 1) := by decide +kernel
theorem dX6_cellAtMark_26 : decode cX6_cellAtMark 26 = .ok (.istore_n 3, 1) := by decide +kernel
theorem dX6_cellAtMark_27 : decode cX6_cellAtMark 27 = .ok (.iload_n 3, 1) := by decide +kernel
theorem dX6_cellAtMark_28 : decode cX6_cellAtMark 28 = .ok (.ifCond .eq 17, 3) := by decide +kernel
theorem dX6_cellAtMark_31 : decode cX6_cellAtMark 31 = .ok (.aload_n 0, 1) := by decide +kernel
theorem dX6_cellAtMark_32 : decode cX6_cellAtMark 32 = .ok (.getfield 22, 3) := by decide +kernel
theorem dX6_cellAtMark_35 : decode cX6_cellAtMark 35 = .ok (.iload_n 1, 1) := by decide +kernel
theorem dX6_cellAtMark_36 : decode cX6_cellAtMark 36 = .ok (.bipush 6, 2) := by decide +kernel
theorem dX6_cellAtMark_38 : decode cX6_cellAtMark 38 = .ok (.imul, 1) := by decide +kernel
theorem dX6_cellAtMark_39 : decode cX6_cellAtMark 39 = .ok (.iload_n 2, 1) := by decide +kernel
theorem dX6_cellAtMark_40 : decode cX6_cellAtMark 40 = .ok (.iadd, 1) := by decide +kernel
theorem dX6_cellAtMark_41 : decode cX6_cellAtMark 41 = .ok (.iaload, 1) := by decide +kernel
theorem dX6_cellAtMark_42 : decode cX6_cellAtMark 42 = .ok (.goto 6, 3) := by decide +kernel
theorem dX6_cellAtMark_45 : decode cX6_cellAtMark 45 = .ok (.sipush (-10009), 3) := by decide +kernel
theorem dX6_cellAtMark_48 : decode cX6_cellAtMark 48 = .ok (.ireturn, 1) := by decide +kernel
theorem dX6_stepsAheadOf_0 : decode cX6_stepsAheadOf 0 = .ok (.iload_n 1, 1) := by decide +kernel
theorem dX6_stepsAheadOf_1 : decode cX6_stepsAheadOf 1 = .ok (.iconst 0, 1) := by decide +kernel
theorem dX6_stepsAheadOf_2 : decode cX6_stepsAheadOf 2 = .ok (.aload_n 0, 1) := by decide +kernel
theorem dX6_stepsAheadOf_3 : decode cX6_stepsAheadOf 3 = .ok (.invokevirtual 136, 3) := by decide +kernel
theorem dX6_stepsAheadOf_6 : decode cX6_stepsAheadOf 6 = .ok (.iconst 1, 1) := by decide +kernel
theorem dX6_stepsAheadOf_7 : decode cX6_stepsAheadOf 7 = .ok (.isub, 1) := by decide +kernel
theorem dX6_stepsAheadOf_8 : decode cX6_stepsAheadOf 8 = .ok (.invokestatic 99, 3) := by decide +kernel
theorem dX6_stepsAheadOf_11 : decode cX6_stepsAheadOf 11 = .ok (.ifCond .eq 12, 3) := by decide +kernel
theorem dX6_stepsAheadOf_14 : decode cX6_stepsAheadOf 14 = .ok (.aload_n 0, 1) := by decide +kernel
theorem dX6_stepsAheadOf_15 : decode cX6_stepsAheadOf 15 = .ok (.getfield 25, 3) := by decide +kernel
theorem dX6_stepsAheadOf_18 : decode cX6_stepsAheadOf 18 = .ok (.iload_n 1, 1) := by decide +kernel
theorem dX6_stepsAheadOf_19 : decode cX6_stepsAheadOf 19 = .ok (.iaload, 1) := by decide +kernel
theorem dX6_stepsAheadOf_20 : decode cX6_stepsAheadOf 20 = .ok (.goto 4, 3) := by decide +kernel
theorem dX6_stepsAheadOf_23 : decode cX6_stepsAheadOf 23 = .ok (.iconst 0, 1) := by decide +kernel
theorem dX6_stepsAheadOf_24 : decode cX6_stepsAheadOf 24 = .ok (.ireturn, 1) := by decide +kernel
theorem dX7_init_0 : decode cX7_init 0 = .ok (.aload_n 0, 1) := by decide +kernel
theorem dX7_init_1 : decode cX7_init 1 = .ok (.invokespecial 3, 3) := by decide +kernel
theorem dX7_init_4 : decode cX7_init 4 = .ok (.aload_n 0, 1) := by decide +kernel
theorem dX7_init_5 : decode cX7_init 5 = .ok (.new 9, 3) := by decide +kernel
theorem dX7_init_8 : decode cX7_init 8 = .ok (.dup, 1) := by decide +kernel
theorem dX7_init_9 : decode cX7_init 9 = .ok (.invokespecial 11, 3) := by decide +kernel
theorem dX7_init_12 : decode cX7_init 12 = .ok (.putfield 12, 3) := by decide +kernel
theorem dX7_init_15 : decode cX7_init 15 = .ok (.aload_n 0, 1) := by decide +kernel
theorem dX7_init_16 : decode cX7_init 16 = .ok (.new 16, 3) := by decide +kernel
theorem dX7_init_19 : decode cX7_init 19 = .ok (.dup, 1) := by decide +kernel
theorem dX7_init_20 : decode cX7_init 20 = .ok (.invokespecial 18, 3) := by decide +kernel
theorem dX7_init_23 : decode cX7_init 23 = .ok (.putfield 19, 3) := by decide +kernel
theorem dX7_init_26 : decode cX7_init 26 = .ok (.aload_n 0, 1) := by decide +kernel
theorem dX7_init_27 : decode cX7_init 27 = .ok (.new 23, 3) := by decide +kernel
theorem dX7_init_30 : decode cX7_init 30 = .ok (.dup, 1) := by decide +kernel
theorem dX7_init_31 : decode cX7_init 31 = .ok (.aload_n 0, 1) := by decide +kernel
theorem dX7_init_32 : decode cX7_init 32 = .ok (.getfield 12, 3) := by decide +kernel
theorem dX7_init_35 : decode cX7_init 35 = .ok (.aload_n 0, 1) := by decide +kernel
theorem dX7_init_36 : decode cX7_init 36 = .ok (.getfield 19, 3) := by decide +kernel
theorem dX7_init_39 : decode cX7_init 39 = .ok (.invokespecial 25, 3) := by decide +kernel
theorem dX7_init_42 : decode cX7_init 42 = .ok (.putfield 28, 3) := by decide +kernel
theorem dX7_init_45 : decode cX7_init 45 = .ok (.aload_n 0, 1) := by decide +kernel
theorem dX7_init_46 : decode cX7_init 46 = .ok (.new 32, 3) := by decide +kernel
theorem dX7_init_49 : decode cX7_init 49 = .ok (.dup, 1) := by decide +kernel
theorem dX7_init_50 : decode cX7_init 50 = .ok (.invokespecial 34, 3) := by decide +kernel
theorem dX7_init_53 : decode cX7_init 53 = .ok (.putfield 35, 3) := by decide +kernel
theorem dX7_init_56 : decode cX7_init 56 = .ok (.aload_n 0, 1) := by decide +kernel
theorem dX7_init_57 : decode cX7_init 57 = .ok (.new 39, 3) := by decide +kernel
theorem dX7_init_60 : decode cX7_init 60 = .ok (.dup, 1) := by decide +kernel
theorem dX7_init_61 : decode cX7_init 61 = .ok (.invokespecial 41, 3) := by decide +kernel
theorem dX7_init_64 : decode cX7_init 64 = .ok (.putfield 42, 3) := by decide +kernel
theorem dX7_init_67 : decode cX7_init 67 = .ok (.aload_n 0, 1) := by decide +kernel
theorem dX7_init_68 : decode cX7_init 68 = .ok (.bipush 16, 2) := by decide +kernel
theorem dX7_init_70 : decode cX7_init 70 = .ok (.anewarray 46, 3) := by decide +kernel
theorem dX7_init_73 : decode cX7_init 73 = .ok (.putfield 48, 3) := by decide +kernel
theorem dX7_init_76 : decode cX7_init 76 = .ok (.iconst 0, 1) := by decide +kernel
theorem dX7_init_77 : decode cX7_init 77 = .ok (.istore_n 1, 1) := by decide +kernel
theorem dX7_init_78 : decode cX7_init 78 = .ok (.iload_n 1, 1) := by decide +kernel
theorem dX7_init_79 : decode cX7_init 79 = .ok (.bipush 16, 2) := by decide +kernel
theorem dX7_init_81 : decode cX7_init 81 = .ok (.if_icmp .ge 22, 3) := by decide +kernel
theorem dX7_init_84 : decode cX7_init 84 = .ok (.aload_n 0, 1) := by decide +kernel
theorem dX7_init_85 : decode cX7_init 85 = .ok (.getfield 48, 3) := by decide +kernel
theorem dX7_init_88 : decode cX7_init 88 = .ok (.iload_n 1, 1) := by decide +kernel
theorem dX7_init_89 : decode cX7_init 89 = .ok (.new 46, 3) := by decide +kernel
theorem dX7_init_92 : decode cX7_init 92 = .ok (.dup, 1) := by decide +kernel
theorem dX7_init_93 : decode cX7_init 93 = .ok (.invokespecial 52, 3) := by decide +kernel
theorem dX7_init_96 : decode cX7_init 96 = .ok (.aastore, 1) := by decide +kernel
theorem dX7_init_97 : decode cX7_init 97 = .ok (.iinc 1 1, 3) := by decide +kernel
theorem dX7_init_100 : decode cX7_init 100 = .ok (.goto (-22), 3) := by decide +kernel
theorem dX7_init_103 : decode cX7_init 103 = .ok (.aload_n 0, 1) := by decide +kernel
theorem dX7_init_104 : decode cX7_init 104 = .ok (.new 16, 3) := by decide +kernel
theorem dX7_init_107 : decode cX7_init 107 = .ok (.dup, 1) := by decide +kernel
theorem dX7_init_108 : decode cX7_init 108 = .ok (.invokespecial 18, 3) := by decide +kernel
theorem dX7_init_111 : decode cX7_init 111 = .ok (.putfield 53, 3) := by decide +kernel
theorem dX7_init_114 : decode cX7_init 114 = .ok (.aload_n 0, 1) := by decide +kernel
theorem dX7_init_115 : decode cX7_init 115 = .ok (.new 16, 3) := by decide +kernel
theorem dX7_init_118 : decode cX7_init 118 = .ok (.dup, 1) := by decide +kernel
theorem dX7_init_119 : decode cX7_init 119 = .ok (.invokespecial 18, 3) := by decide +kernel
theorem dX7_init_122 : decode cX7_init 122 = .ok (.putfield 56, 3) := by decide +kernel
theorem dX7_init_125 : decode cX7_init 125 = .ok (.return_, 1) := by decide +kernel
theorem dX7_append_0 : decode cX7_append 0 = .ok (.iload_n 1, 1) := by decide +kernel
theorem dX7_append_1 : decode cX7_append 1 = .ok (.iconst 1, 1) := by decide +kernel
theorem dX7_append_2 : decode cX7_append 2 = .ok (.sipush 255, 3) := by decide +kernel
theorem dX7_append_5 : decode cX7_append 5 = .ok (.invokestatic 59, 3) := by decide +kernel
theorem dX7_append_8 : decode cX7_append 8 = .ok (.ifCond .ne 7, 3) := by decide +kernel
theorem dX7_append_11 : decode cX7_append 11 = .ok (.sipush (-10001), 3) := by decide +kernel
theorem dX7_append_14 : decode cX7_append 14 = .ok (.ireturn, 1) := by decide +kernel
theorem dX7_append_15 : decode cX7_append 15 = .ok (.aload_n 0, 1) := by decide +kernel
theorem dX7_append_16 : decode cX7_append 16 = .ok (.getfield 12, 3) := by decide +kernel
theorem dX7_append_19 : decode cX7_append 19 = .ok (.invokevirtual 63, 3) := by decide +kernel
theorem dX7_append_22 : decode cX7_append 22 = .ok (.ifCond .eq 7, 3) := by decide +kernel
theorem dX7_append_25 : decode cX7_append 25 = .ok (.sipush (-10003), 3) := by decide +kernel
theorem dX7_append_28 : decode cX7_append 28 = .ok (.ireturn, 1) := by decide +kernel
theorem dX7_append_29 : decode cX7_append 29 = .ok (.aload_n 0, 1) := by decide +kernel
theorem dX7_append_30 : decode cX7_append 30 = .ok (.getfield 12, 3) := by decide +kernel
theorem dX7_append_33 : decode cX7_append 33 = .ok (.iload_n 1, 1) := by decide +kernel
theorem dX7_append_34 : decode cX7_append 34 = .ok (.i2c, 1) := by decide +kernel
theorem dX7_append_35 : decode cX7_append 35 = .ok (.invokevirtual 67, 3) := by decide +kernel
theorem dX7_append_38 : decode cX7_append 38 = .ok (.aload_n 0, 1) := by decide +kernel
theorem dX7_append_39 : decode cX7_append 39 = .ok (.getfield 12, 3) := by decide +kernel
theorem dX7_append_42 : decode cX7_append 42 = .ok (.getfield 71, 3) := by decide +kernel
theorem dX7_append_45 : decode cX7_append 45 = .ok (.ireturn, 1) := by decide +kernel
theorem dX7_clearText_0 : decode cX7_clearText 0 = .ok (.aload_n 0, 1) := by decide +kernel
theorem dX7_clearText_1 : decode cX7_clearText 1 = .ok (.getfield 12, 3) := by decide +kernel
theorem dX7_clearText_4 : decode cX7_clearText 4 = .ok (.getfield 71, 3) := by decide +kernel
theorem dX7_clearText_7 : decode cX7_clearText 7 = .ok (.istore_n 1, 1) := by decide +kernel
theorem dX7_clearText_8 : decode cX7_clearText 8 = .ok (.aload_n 0, 1) := by decide +kernel
theorem dX7_clearText_9 : decode cX7_clearText 9 = .ok (.getfield 12, 3) := by decide +kernel
theorem dX7_clearText_12 : decode cX7_clearText 12 = .ok (.iconst 0, 1) := by decide +kernel
theorem dX7_clearText_13 : decode cX7_clearText 13 = .ok (.putfield 71, 3) := by decide +kernel
theorem dX7_clearText_16 : decode cX7_clearText 16 = .ok (.iload_n 1, 1) := by decide +kernel
theorem dX7_clearText_17 : decode cX7_clearText 17 = .ok (.ireturn, 1) := by decide +kernel
theorem dX7_read_0 : decode cX7_read 0 = .ok (.iload_n 1, 1) := by decide +kernel
theorem dX7_read_1 : decode cX7_read 1 = .ok (.invokestatic 75, 3) := by decide +kernel
theorem dX7_read_4 : decode cX7_read 4 = .ok (.ifCond .ne 7, 3) := by decide +kernel
theorem dX7_read_7 : decode cX7_read 7 = .ok (.sipush (-10001), 3) := by decide +kernel
theorem dX7_read_10 : decode cX7_read 10 = .ok (.ireturn, 1) := by decide +kernel
theorem dX7_read_11 : decode cX7_read 11 = .ok (.aload_n 0, 1) := by decide +kernel
theorem dX7_read_12 : decode cX7_read 12 = .ok (.getfield 28, 3) := by decide +kernel
theorem dX7_read_15 : decode cX7_read 15 = .ok (.invokevirtual 79, 3) := by decide +kernel
theorem dX7_read_18 : decode cX7_read 18 = .ok (.ifCond .ne 15, 3) := by decide +kernel
theorem dX7_read_21 : decode cX7_read 21 = .ok (.sipush (-1000), 3) := by decide +kernel
theorem dX7_read_24 : decode cX7_read 24 = .ok (.aload_n 0, 1) := by decide +kernel
theorem dX7_read_25 : decode cX7_read 25 = .ok (.getfield 28, 3) := by decide +kernel
theorem dX7_read_28 : decode cX7_read 28 = .ok (.getfield 82, 3) := by decide +kernel
theorem dX7_read_31 : decode cX7_read 31 = .ok (.isub, 1) := by decide +kernel
theorem dX7_read_32 : decode cX7_read 32 = .ok (.ireturn, 1) := by decide +kernel
theorem dX7_read_33 : decode cX7_read 33 = .ok (.aload_n 0, 1) := by decide +kernel
theorem dX7_read_34 : decode cX7_read 34 = .ok (.getfield 35, 3) := by decide +kernel
theorem dX7_read_37 : decode cX7_read 37 = .ok (.aload_n 0, 1) := by decide +kernel
theorem dX7_read_38 : decode cX7_read 38 = .ok (.getfield 53, 3) := by decide +kernel
theorem dX7_read_41 : decode cX7_read 41 = .ok (.aload_n 0, 1) := by decide +kernel
theorem dX7_read_42 : decode cX7_read 42 = .ok (.getfield 56, 3) := by decide +kernel
theorem dX7_read_45 : decode cX7_read 45 = .ok (.invokevirtual 85, 3) := by decide +kernel
theorem dX7_read_48 : decode cX7_read 48 = .ok (.aload_n 0, 1) := by decide +kernel
theorem dX7_read_49 : decode cX7_read 49 = .ok (.iload_n 1, 1) := by decide +kernel
theorem dX7_read_50 : decode cX7_read 50 = .ok (.invokevirtual 89, 3) := by decide +kernel
theorem dX7_read_53 : decode cX7_read 53 = .ok (.astore_n 2, 1) := by decide +kernel
theorem dX7_read_54 : decode cX7_read 54 = .ok (.aload_n 2, 1) := by decide +kernel
theorem dX7_read_55 : decode cX7_read 55 = .ok (.aload_n 0, 1) := by decide +kernel
theorem dX7_read_56 : decode cX7_read 56 = .ok (.getfield 19, 3) := by decide +kernel
theorem dX7_read_59 : decode cX7_read 59 = .ok (.invokevirtual 93, 3) := by decide +kernel
theorem dX7_read_62 : decode cX7_read 62 = .ok (.aload_n 2, 1) := by decide +kernel
theorem dX7_read_63 : decode cX7_read 63 = .ok (.getfield 97, 3) := by decide +kernel
theorem dX7_read_66 : decode cX7_read 66 = .ok (.ireturn, 1) := by decide +kernel
theorem dX7_copy_0 : decode cX7_copy 0 = .ok (.aload_n 0, 1) := by decide +kernel
theorem dX7_copy_1 : decode cX7_copy 1 = .ok (.getfield 35, 3) := by decide +kernel
theorem dX7_copy_4 : decode cX7_copy 4 = .ok (.aload_n 0, 1) := by decide +kernel
theorem dX7_copy_5 : decode cX7_copy 5 = .ok (.getfield 53, 3) := by decide +kernel
theorem dX7_copy_8 : decode cX7_copy 8 = .ok (.aload_n 0, 1) := by decide +kernel
theorem dX7_copy_9 : decode cX7_copy 9 = .ok (.getfield 56, 3) := by decide +kernel
theorem dX7_copy_12 : decode cX7_copy 12 = .ok (.invokevirtual 85, 3) := by decide +kernel
theorem dX7_copy_15 : decode cX7_copy 15 = .ok (.aload_n 0, 1) := by decide +kernel
theorem dX7_copy_16 : decode cX7_copy 16 = .ok (.getfield 56, 3) := by decide +kernel
theorem dX7_copy_19 : decode cX7_copy 19 = .ok (.aload_n 0, 1) := by decide +kernel
theorem dX7_copy_20 : decode cX7_copy 20 = .ok (.getfield 53, 3) := by decide +kernel
theorem dX7_copy_23 : decode cX7_copy 23 = .ok (.invokevirtual 93, 3) := by decide +kernel
theorem dX7_copy_26 : decode cX7_copy 26 = .ok (.aload_n 0, 1) := by decide +kernel
theorem dX7_copy_27 : decode cX7_copy 27 = .ok (.getfield 56, 3) := by decide +kernel
theorem dX7_copy_30 : decode cX7_copy 30 = .ok (.getfield 97, 3) := by decide +kernel
theorem dX7_copy_33 : decode cX7_copy 33 = .ok (.ireturn, 1) := by decide +kernel
theorem dX7_exchange_0 : decode cX7_exchange 0 = .ok (.aload_n 0, 1) := by decide +kernel
theorem dX7_exchange_1 : decode cX7_exchange 1 = .ok (.getfield 35, 3) := by decide +kernel
theorem dX7_exchange_4 : decode cX7_exchange 4 = .ok (.aload_n 0, 1) := by decide +kernel
theorem dX7_exchange_5 : decode cX7_exchange 5 = .ok (.getfield 53, 3) := by decide +kernel
theorem dX7_exchange_8 : decode cX7_exchange 8 = .ok (.aload_n 0, 1) := by decide +kernel
theorem dX7_exchange_9 : decode cX7_exchange 9 = .ok (.getfield 56, 3) := by decide +kernel
theorem dX7_exchange_12 : decode cX7_exchange 12 = .ok (.invokevirtual 85, 3) := by decide +kernel
theorem dX7_exchange_15 : decode cX7_exchange 15 = .ok (.aload_n 0, 1) := by decide +kernel
theorem dX7_exchange_16 : decode cX7_exchange 16 = .ok (.getfield 53, 3) := by decide +kernel
theorem dX7_exchange_19 : decode cX7_exchange 19 = .ok (.astore_n 1, 1) := by decide +kernel
theorem dX7_exchange_20 : decode cX7_exchange 20 = .ok (.aload_n 0, 1) := by decide +kernel
theorem dX7_exchange_21 : decode cX7_exchange 21 = .ok (.aload_n 0, 1) := by decide +kernel
theorem dX7_exchange_22 : decode cX7_exchange 22 = .ok (.getfield 56, 3) := by decide +kernel
theorem dX7_exchange_25 : decode cX7_exchange 25 = .ok (.putfield 53, 3) := by decide +kernel
theorem dX7_exchange_28 : decode cX7_exchange 28 = .ok (.aload_n 0, 1) := by decide +kernel
theorem dX7_exchange_29 : decode cX7_exchange 29 = .ok (.aload_n 1, 1) := by decide +kernel
theorem dX7_exchange_30 : decode cX7_exchange 30 = .ok (.putfield 56, 3) := by decide +kernel
theorem dX7_exchange_33 : decode cX7_exchange 33 = .ok (.aload_n 0, 1) := by decide +kernel
theorem dX7_exchange_34 : decode cX7_exchange 34 = .ok (.getfield 53, 3) := by decide +kernel
theorem dX7_exchange_37 : decode cX7_exchange 37 = .ok (.getfield 97, 3) := by decide +kernel
theorem dX7_exchange_40 : decode cX7_exchange 40 = .ok (.ireturn, 1) := by decide +kernel
theorem dX7_cut_0 : decode cX7_cut 0 = .ok (.iload_n 1, 1) := by decide +kernel
theorem dX7_cut_1 : decode cX7_cut 1 = .ok (.invokestatic 75, 3) := by decide +kernel
theorem dX7_cut_4 : decode cX7_cut 4 = .ok (.ifCond .eq 15, 3) := by decide +kernel
theorem dX7_cut_7 : decode cX7_cut 7 = .ok (.aload_n 0, 1) := by decide +kernel
theorem dX7_cut_8 : decode cX7_cut 8 = .ok (.iload_n 1, 1) := by decide +kernel
theorem dX7_cut_9 : decode cX7_cut 9 = .ok (.invokevirtual 89, 3) := by decide +kernel
theorem dX7_cut_12 : decode cX7_cut 12 = .ok (.iload_n 2, 1) := by decide +kernel
theorem dX7_cut_13 : decode cX7_cut 13 = .ok (.invokevirtual 100, 3) := by decide +kernel
theorem dX7_cut_16 : decode cX7_cut 16 = .ok (.ifCond .ne 7, 3) := by decide +kernel
theorem dX7_cut_19 : decode cX7_cut 19 = .ok (.sipush (-10001), 3) := by decide +kernel
theorem dX7_cut_22 : decode cX7_cut 22 = .ok (.ireturn, 1) := by decide +kernel
theorem dX7_cut_23 : decode cX7_cut 23 = .ok (.aload_n 0, 1) := by decide +kernel
theorem dX7_cut_24 : decode cX7_cut 24 = .ok (.getfield 35, 3) := by decide +kernel
theorem dX7_cut_27 : decode cX7_cut 27 = .ok (.aload_n 0, 1) := by decide +kernel
theorem dX7_cut_28 : decode cX7_cut 28 = .ok (.getfield 53, 3) := by decide +kernel
theorem dX7_cut_31 : decode cX7_cut 31 = .ok (.aload_n 0, 1) := by decide +kernel
theorem dX7_cut_32 : decode cX7_cut 32 = .ok (.getfield 56, 3) := by decide +kernel
theorem dX7_cut_35 : decode cX7_cut 35 = .ok (.invokevirtual 85, 3) := by decide +kernel
theorem dX7_cut_38 : decode cX7_cut 38 = .ok (.aload_n 0, 1) := by decide +kernel
theorem dX7_cut_39 : decode cX7_cut 39 = .ok (.iload_n 1, 1) := by decide +kernel
theorem dX7_cut_40 : decode cX7_cut 40 = .ok (.invokevirtual 89, 3) := by decide +kernel
theorem dX7_cut_43 : decode cX7_cut 43 = .ok (.astore_n 3, 1) := by decide +kernel
theorem dX7_cut_44 : decode cX7_cut 44 = .ok (.aload_n 3, 1) := by decide +kernel
theorem dX7_cut_45 : decode cX7_cut 45 = .ok (.iload_n 2, 1) := by decide +kernel
theorem dX7_cut_46 : decode cX7_cut 46 = .ok (.invokevirtual 103, 3) := by decide +kernel
theorem dX7_cut_49 : decode cX7_cut 49 = .ok (.aload_n 3, 1) := by decide +kernel
theorem dX7_cut_50 : decode cX7_cut 50 = .ok (.getfield 97, 3) := by decide +kernel
theorem dX7_cut_53 : decode cX7_cut 53 = .ok (.ireturn, 1) := by decide +kernel
theorem dX7_undo_0 : decode cX7_undo 0 = .ok (.aload_n 0, 1) := by decide +kernel
theorem dX7_undo_1 : decode cX7_undo 1 = .ok (.getfield 35, 3) := by decide +kernel
theorem dX7_undo_4 : decode cX7_undo 4 = .ok (.getfield 107, 3) := by decide +kernel
theorem dX7_undo_7 : decode cX7_undo 7 = .ok (.ifCond .ne 7, 3) := by decide +kernel
theorem dX7_undo_10 : decode cX7_undo 10 = .ok (.sipush (-10002), 3) := by decide +kernel
theorem dX7_undo_13 : decode cX7_undo 13 = .ok (.ireturn, 1) := by decide +kernel
theorem dX7_undo_14 : decode cX7_undo 14 = .ok (.aload_n 0, 1) := by decide +kernel
theorem dX7_undo_15 : decode cX7_undo 15 = .ok (.getfield 35, 3) := by decide +kernel
theorem dX7_undo_18 : decode cX7_undo 18 = .ok (.aload_n 0, 1) := by decide +kernel
theorem dX7_undo_19 : decode cX7_undo 19 = .ok (.getfield 53, 3) := by decide +kernel
theorem dX7_undo_22 : decode cX7_undo 22 = .ok (.aload_n 0, 1) := by decide +kernel
theorem dX7_undo_23 : decode cX7_undo 23 = .ok (.getfield 56, 3) := by decide +kernel
theorem dX7_undo_26 : decode cX7_undo 26 = .ok (.invokevirtual 108, 3) := by decide +kernel
theorem dX7_undo_29 : decode cX7_undo 29 = .ok (.aload_n 0, 1) := by decide +kernel
theorem dX7_undo_30 : decode cX7_undo 30 = .ok (.getfield 35, 3) := by decide +kernel
theorem dX7_undo_33 : decode cX7_undo 33 = .ok (.getfield 107, 3) := by decide +kernel
theorem dX7_undo_36 : decode cX7_undo 36 = .ok (.ireturn, 1) := by decide +kernel
theorem dX7_count_0 : decode cX7_count 0 = .ok (.iload_n 1, 1) := by decide +kernel
theorem dX7_count_1 : decode cX7_count 1 = .ok (.tableswitch 63 0 3 #[31, 39, 47, 55], 31) := by decide +kernel
theorem dX7_count_32 : decode cX7_count 32 = .ok (.aload_n 0, 1) := by decide +kernel
theorem dX7_count_33 : decode cX7_count 33 = .ok (.getfield 53, 3) := by decide +kernel
theorem dX7_count_36 : decode cX7_count 36 = .ok (.getfield 97, 3) := by decide +kernel
theorem dX7_count_39 : decode cX7_count 39 = .ok (.ireturn, 1) := by decide +kernel
theorem dX7_count_40 : decode cX7_count 40 = .ok (.aload_n 0, 1) := by decide +kernel
theorem dX7_count_41 : decode cX7_count 41 = .ok (.getfield 56, 3) := by decide +kernel
theorem dX7_count_44 : decode cX7_count 44 = .ok (.getfield 97, 3) := by decide +kernel
theorem dX7_count_47 : decode cX7_count 47 = .ok (.ireturn, 1) := by decide +kernel
theorem dX7_count_48 : decode cX7_count 48 = .ok (.aload_n 0, 1) := by decide +kernel
theorem dX7_count_49 : decode cX7_count 49 = .ok (.getfield 35, 3) := by decide +kernel
theorem dX7_count_52 : decode cX7_count 52 = .ok (.getfield 107, 3) := by decide +kernel
theorem dX7_count_55 : decode cX7_count 55 = .ok (.ireturn, 1) := by decide +kernel
theorem dX7_count_56 : decode cX7_count 56 = .ok (.aload_n 0, 1) := by decide +kernel
theorem dX7_count_57 : decode cX7_count 57 = .ok (.getfield 12, 3) := by decide +kernel
theorem dX7_count_60 : decode cX7_count 60 = .ok (.getfield 71, 3) := by decide +kernel
theorem dX7_count_63 : decode cX7_count 63 = .ok (.ireturn, 1) := by decide +kernel
theorem dX7_count_64 : decode cX7_count 64 = .ok (.sipush (-10001), 3) := by decide +kernel
theorem dX7_count_67 : decode cX7_count 67 = .ok (.ireturn, 1) := by decide +kernel
theorem dX7_program_0 : decode cX7_program 0 = .ok (.iload_n 1, 1) := by decide +kernel
theorem dX7_program_1 : decode cX7_program 1 = .ok (.invokestatic 75, 3) := by decide +kernel
theorem dX7_program_4 : decode cX7_program 4 = .ok (.ifCond .ne 7, 3) := by decide +kernel
theorem dX7_program_7 : decode cX7_program 7 = .ok (.sipush (-10001), 3) := by decide +kernel
theorem dX7_program_10 : decode cX7_program 10 = .ok (.ireturn, 1) := by decide +kernel
theorem dX7_program_11 : decode cX7_program 11 = .ok (.aload_n 0, 1) := by decide +kernel
theorem dX7_program_12 : decode cX7_program 12 = .ok (.iload_n 1, 1) := by decide +kernel
theorem dX7_program_13 : decode cX7_program 13 = .ok (.invokevirtual 89, 3) := by decide +kernel
theorem dX7_program_16 : decode cX7_program 16 = .ok (.astore_n 3, 1) := by decide +kernel
theorem dX7_program_17 : decode cX7_program 17 = .ok (.iload_n 2, 1) := by decide +kernel
theorem dX7_program_18 : decode cX7_program 18 = .ok (.tableswitch 67 0 7 #[46, 51, 51, 51, 51, 51, 57, 62], 46) := by decide +kernel
theorem dX7_program_64 : decode cX7_program 64 = .ok (.aload_n 3, 1) := by decide +kernel
theorem dX7_program_65 : decode cX7_program 65 = .ok (.getfield 97, 3) := by decide +kernel
theorem dX7_program_68 : decode cX7_program 68 = .ok (.ireturn, 1) := by decide +kernel
theorem dX7_program_69 : decode cX7_program 69 = .ok (.aload_n 3, 1) := by decide +kernel
theorem dX7_program_70 : decode cX7_program 70 = .ok (.iload_n 2, 1) := by decide +kernel
theorem dX7_program_71 : decode cX7_program 71 = .ok (.invokevirtual 111, 3) := by decide +kernel
theorem dX7_program_74 : decode cX7_program 74 = .ok (.ireturn, 1) := by decide +kernel
theorem dX7_program_75 : decode cX7_program 75 = .ok (.aload_n 3, 1) := by decide +kernel
theorem dX7_program_76 : decode cX7_program 76 = .ok (.invokevirtual 115, 3) := by decide +kernel
theorem dX7_program_79 : decode cX7_program 79 = .ok (.ireturn, 1) := by decide +kernel
theorem dX7_program_80 : decode cX7_program 80 = .ok (.aload_n 3, 1) := by decide +kernel
theorem dX7_program_81 : decode cX7_program 81 = .ok (.invokevirtual 119, 3) := by decide +kernel
theorem dX7_program_84 : decode cX7_program 84 = .ok (.ireturn, 1) := by decide +kernel
theorem dX7_program_85 : decode cX7_program 85 = .ok (.sipush (-10001), 3) := by decide +kernel
theorem dX7_program_88 : decode cX7_program 88 = .ok (.ireturn, 1) := by decide +kernel
theorem dX7_run_0 : decode cX7_run 0 = .ok (.iload_n 1, 1) := by decide +kernel
theorem dX7_run_1 : decode cX7_run 1 = .ok (.invokestatic 75, 3) := by decide +kernel
theorem dX7_run_4 : decode cX7_run 4 = .ok (.ifCond .eq 21, 3) := by decide +kernel
theorem dX7_run_7 : decode cX7_run 7 = .ok (.iload_n 2, 1) := by decide +kernel
theorem dX7_run_8 : decode cX7_run 8 = .ok (.iload_n 3, 1) := by decide +kernel
theorem dX7_run_9 : decode cX7_run 9 = .ok (.invokestatic 122, 3) := by decide +kernel
theorem dX7_run_12 : decode cX7_run 12 = .ok (.ifCond .eq 13, 3) := by decide +kernel
theorem dX7_run_15 : decode cX7_run 15 = .ok (.iload 4, 2) := by decide +kernel
theorem dX7_run_17 : decode cX7_run 17 = .ok (.iconst 0, 1) := by decide +kernel
theorem dX7_run_18 : decode cX7_run 18 = .ok (.iconst 5, 1) := by decide +kernel
theorem dX7_run_19 : decode cX7_run 19 = .ok (.invokestatic 59, 3) := by decide +kernel
theorem dX7_run_22 : decode cX7_run 22 = .ok (.ifCond .ne 7, 3) := by decide +kernel
theorem dX7_run_25 : decode cX7_run 25 = .ok (.sipush (-10001), 3) := by decide +kernel
theorem dX7_run_28 : decode cX7_run 28 = .ok (.ireturn, 1) := by decide +kernel
theorem dX7_run_29 : decode cX7_run 29 = .ok (.aload_n 0, 1) := by decide +kernel
theorem dX7_run_30 : decode cX7_run 30 = .ok (.iload_n 1, 1) := by decide +kernel
theorem dX7_run_31 : decode cX7_run 31 = .ok (.iload_n 2, 1) := by decide +kernel
theorem dX7_run_32 : decode cX7_run 32 = .ok (.iload_n 3, 1) := by decide +kernel
theorem dX7_run_33 : decode cX7_run 33 = .ok (.invokevirtual 126, 3) := by decide +kernel
theorem dX7_run_36 : decode cX7_run 36 = .ok (.astore 5, 2) := by decide +kernel
theorem dX7_run_38 : decode cX7_run 38 = .ok (.iload 4, 2) := by decide +kernel
theorem dX7_run_40 : decode cX7_run 40 = .ok (.tableswitch 80 0 4 #[36, 42, 59, 68, 74], 36) := by decide +kernel
theorem dX7_run_76 : decode cX7_run 76 = .ok (.aload 5, 2) := by decide +kernel
theorem dX7_run_78 : decode cX7_run 78 = .ok (.getfield 130, 3) := by decide +kernel
theorem dX7_run_81 : decode cX7_run 81 = .ok (.ireturn, 1) := by decide +kernel
theorem dX7_run_82 : decode cX7_run 82 = .ok (.aload 5, 2) := by decide +kernel
theorem dX7_run_84 : decode cX7_run 84 = .ok (.getfield 135, 3) := by decide +kernel
theorem dX7_run_87 : decode cX7_run 87 = .ok (.getfield 139, 3) := by decide +kernel
theorem dX7_run_90 : decode cX7_run 90 = .ok (.ifCond .eq 7, 3) := by decide +kernel
theorem dX7_run_93 : decode cX7_run 93 = .ok (.iconst 1, 1) := by decide +kernel
theorem dX7_run_94 : decode cX7_run 94 = .ok (.goto 4, 3) := by decide +kernel
theorem dX7_run_97 : decode cX7_run 97 = .ok (.iconst 0, 1) := by decide +kernel
theorem dX7_run_98 : decode cX7_run 98 = .ok (.ireturn, 1) := by decide +kernel
theorem dX7_run_99 : decode cX7_run 99 = .ok (.aload 5, 2) := by decide +kernel
theorem dX7_run_101 : decode cX7_run 101 = .ok (.getfield 135, 3) := by decide +kernel
theorem dX7_run_104 : decode cX7_run 104 = .ok (.getfield 143, 3) := by decide +kernel
theorem dX7_run_107 : decode cX7_run 107 = .ok (.ireturn, 1) := by decide +kernel
theorem dX7_run_108 : decode cX7_run 108 = .ok (.aload 5, 2) := by decide +kernel
theorem dX7_run_110 : decode cX7_run 110 = .ok (.getfield 146, 3) := by decide +kernel
theorem dX7_run_113 : decode cX7_run 113 = .ok (.ireturn, 1) := by decide +kernel
theorem dX7_run_114 : decode cX7_run 114 = .ok (.aload 5, 2) := by decide +kernel
theorem dX7_run_116 : decode cX7_run 116 = .ok (.getfield 149, 3) := by decide +kernel
theorem dX7_run_119 : decode cX7_run 119 = .ok (.ireturn, 1) := by decide +kernel
theorem dX7_run_120 : decode cX7_run 120 = .ok (.aload 5, 2) := by decide +kernel
theorem dX7_run_122 : decode cX7_run 122 = .ok (.getfield 152, 3) := by decide +kernel
theorem dX7_run_125 : decode cX7_run 125 = .ok (.ireturn, 1) := by decide +kernel
theorem dX7_told_0 : decode cX7_told 0 = .ok (.iload_n 1, 1) := by decide +kernel
theorem dX7_told_1 : decode cX7_told 1 = .ok (.invokestatic 75, 3) := by decide +kernel
theorem dX7_told_4 : decode cX7_told 4 = .ok (.ifCond .eq 16, 3) := by decide +kernel
theorem dX7_told_7 : decode cX7_told 7 = .ok (.iload_n 2, 1) := by decide +kernel
theorem dX7_told_8 : decode cX7_told 8 = .ok (.iload_n 3, 1) := by decide +kernel
theorem dX7_told_9 : decode cX7_told 9 = .ok (.invokestatic 122, 3) := by decide +kernel
theorem dX7_told_12 : decode cX7_told 12 = .ok (.ifCond .eq 8, 3) := by decide +kernel
theorem dX7_told_15 : decode cX7_told 15 = .ok (.iload 4, 2) := by decide +kernel
theorem dX7_told_17 : decode cX7_told 17 = .ok (.ifCond .ge 7, 3) := by decide +kernel
theorem dX7_told_20 : decode cX7_told 20 = .ok (.sipush (-10001), 3) := by decide +kernel
theorem dX7_told_23 : decode cX7_told 23 = .ok (.ireturn, 1) := by decide +kernel
theorem dX7_told_24 : decode cX7_told 24 = .ok (.aload_n 0, 1) := by decide +kernel
theorem dX7_told_25 : decode cX7_told 25 = .ok (.iload_n 1, 1) := by decide +kernel
theorem dX7_told_26 : decode cX7_told 26 = .ok (.iload_n 2, 1) := by decide +kernel
theorem dX7_told_27 : decode cX7_told 27 = .ok (.iload_n 3, 1) := by decide +kernel
theorem dX7_told_28 : decode cX7_told 28 = .ok (.invokevirtual 126, 3) := by decide +kernel
theorem dX7_told_31 : decode cX7_told 31 = .ok (.getfield 135, 3) := by decide +kernel
theorem dX7_told_34 : decode cX7_told 34 = .ok (.iload 4, 2) := by decide +kernel
theorem dX7_told_36 : decode cX7_told 36 = .ok (.invokevirtual 155, 3) := by decide +kernel
theorem dX7_told_39 : decode cX7_told 39 = .ok (.ireturn, 1) := by decide +kernel
theorem dX7_cell_0 : decode cX7_cell 0 = .ok (.iload_n 1, 1) := by decide +kernel
theorem dX7_cell_1 : decode cX7_cell 1 = .ok (.invokestatic 75, 3) := by decide +kernel
theorem dX7_cell_4 : decode cX7_cell 4 = .ok (.ifCond .eq 25, 3) := by decide +kernel
theorem dX7_cell_7 : decode cX7_cell 7 = .ok (.iload_n 2, 1) := by decide +kernel
theorem dX7_cell_8 : decode cX7_cell 8 = .ok (.iload_n 3, 1) := by decide +kernel
theorem dX7_cell_9 : decode cX7_cell 9 = .ok (.invokestatic 122, 3) := by decide +kernel
theorem dX7_cell_12 : decode cX7_cell 12 = .ok (.ifCond .eq 17, 3) := by decide +kernel
theorem dX7_cell_15 : decode cX7_cell 15 = .ok (.iload 4, 2) := by decide +kernel
theorem dX7_cell_17 : decode cX7_cell 17 = .ok (.iconst (-1), 1) := by decide +kernel
theorem dX7_cell_18 : decode cX7_cell 18 = .ok (.if_icmp .lt 11, 3) := by decide +kernel
theorem dX7_cell_21 : decode cX7_cell 21 = .ok (.iload 5, 2) := by decide +kernel
theorem dX7_cell_23 : decode cX7_cell 23 = .ok (.invokestatic 158, 3) := by decide +kernel
theorem dX7_cell_26 : decode cX7_cell 26 = .ok (.ifCond .ne 7, 3) := by decide +kernel
theorem dX7_cell_29 : decode cX7_cell 29 = .ok (.sipush (-10001), 3) := by decide +kernel
theorem dX7_cell_32 : decode cX7_cell 32 = .ok (.ireturn, 1) := by decide +kernel
theorem dX7_cell_33 : decode cX7_cell 33 = .ok (.aload_n 0, 1) := by decide +kernel
theorem dX7_cell_34 : decode cX7_cell 34 = .ok (.iload_n 1, 1) := by decide +kernel
theorem dX7_cell_35 : decode cX7_cell 35 = .ok (.iload_n 2, 1) := by decide +kernel
theorem dX7_cell_36 : decode cX7_cell 36 = .ok (.iload_n 3, 1) := by decide +kernel
theorem dX7_cell_37 : decode cX7_cell 37 = .ok (.invokevirtual 126, 3) := by decide +kernel
theorem dX7_cell_40 : decode cX7_cell 40 = .ok (.astore 6, 2) := by decide +kernel
theorem dX7_cell_42 : decode cX7_cell 42 = .ok (.iload 4, 2) := by decide +kernel
theorem dX7_cell_44 : decode cX7_cell 44 = .ok (.iconst (-1), 1) := by decide +kernel
theorem dX7_cell_45 : decode cX7_cell 45 = .ok (.if_icmp .ne 13, 3) := by decide +kernel
theorem dX7_cell_48 : decode cX7_cell 48 = .ok (.aload 6, 2) := by decide +kernel
theorem dX7_cell_50 : decode cX7_cell 50 = .ok (.iload 5, 2) := by decide +kernel
theorem dX7_cell_52 : decode cX7_cell 52 = .ok (.invokevirtual 161, 3) := by decide +kernel
theorem dX7_cell_55 : decode cX7_cell 55 = .ok (.goto 12, 3) := by decide +kernel
theorem dX7_cell_58 : decode cX7_cell 58 = .ok (.aload 6, 2) := by decide +kernel
theorem dX7_cell_60 : decode cX7_cell 60 = .ok (.iload 4, 2) := by decide +kernel
theorem dX7_cell_62 : decode cX7_cell 62 = .ok (.iload 5, 2) := by decide +kernel
theorem dX7_cell_64 : decode cX7_cell 64 = .ok (.invokevirtual 164, 3) := by decide +kernel
theorem dX7_cell_67 : decode cX7_cell 67 = .ok (.ireturn, 1) := by decide +kernel
theorem dX7_pairs_0 : decode cX7_pairs 0 = .ok (.iload_n 1, 1) := by decide +kernel
theorem dX7_pairs_1 : decode cX7_pairs 1 = .ok (.iload_n 2, 1) := by decide +kernel
theorem dX7_pairs_2 : decode cX7_pairs 2 = .ok (.invokestatic 122, 3) := by decide +kernel
theorem dX7_pairs_5 : decode cX7_pairs 5 = .ok (.ifCond .eq 12, 3) := by decide +kernel
theorem dX7_pairs_8 : decode cX7_pairs 8 = .ok (.iload_n 3, 1) := by decide +kernel
theorem dX7_pairs_9 : decode cX7_pairs 9 = .ok (.iconst 0, 1) := by decide +kernel
theorem dX7_pairs_10 : decode cX7_pairs 10 = .ok (.iconst 3, 1) := by decide +kernel
theorem dX7_pairs_11 : decode cX7_pairs 11 = .ok (.invokestatic 59, 3) := by decide +kernel
theorem dX7_pairs_14 : decode cX7_pairs 14 = .ok (.ifCond .ne 7, 3) := by decide +kernel
theorem dX7_pairs_17 : decode cX7_pairs 17 = .ok (.sipush (-10001), 3) := by decide +kernel
theorem dX7_pairs_20 : decode cX7_pairs 20 = .ok (.ireturn, 1) := by decide +kernel
theorem dX7_pairs_21 : decode cX7_pairs 21 = .ok (.aload_n 0, 1) := by decide +kernel
theorem dX7_pairs_22 : decode cX7_pairs 22 = .ok (.getfield 42, 3) := by decide +kernel
theorem dX7_pairs_25 : decode cX7_pairs 25 = .ok (.aload_n 0, 1) := by decide +kernel
theorem dX7_pairs_26 : decode cX7_pairs 26 = .ok (.getfield 53, 3) := by decide +kernel
theorem dX7_pairs_29 : decode cX7_pairs 29 = .ok (.aload_n 0, 1) := by decide +kernel
theorem dX7_pairs_30 : decode cX7_pairs 30 = .ok (.getfield 56, 3) := by decide +kernel
theorem dX7_pairs_33 : decode cX7_pairs 33 = .ok (.iload_n 1, 1) := by decide +kernel
theorem dX7_pairs_34 : decode cX7_pairs 34 = .ok (.iload_n 2, 1) := by decide +kernel
theorem dX7_pairs_35 : decode cX7_pairs 35 = .ok (.invokevirtual 168, 3) := by decide +kernel
theorem dX7_pairs_38 : decode cX7_pairs 38 = .ok (.iload_n 3, 1) := by decide +kernel
theorem dX7_pairs_39 : decode cX7_pairs 39 = .ok (.tableswitch 49 0 2 #[25, 33, 41], 25) := by decide +kernel
theorem dX7_pairs_64 : decode cX7_pairs 64 = .ok (.aload_n 0, 1) := by decide +kernel
theorem dX7_pairs_65 : decode cX7_pairs 65 = .ok (.getfield 42, 3) := by decide +kernel
theorem dX7_pairs_68 : decode cX7_pairs 68 = .ok (.invokevirtual 172, 3) := by decide +kernel
theorem dX7_pairs_71 : decode cX7_pairs 71 = .ok (.ireturn, 1) := by decide +kernel
theorem dX7_pairs_72 : decode cX7_pairs 72 = .ok (.aload_n 0, 1) := by decide +kernel
theorem dX7_pairs_73 : decode cX7_pairs 73 = .ok (.getfield 42, 3) := by decide +kernel
theorem dX7_pairs_76 : decode cX7_pairs 76 = .ok (.invokevirtual 175, 3) := by decide +kernel
theorem dX7_pairs_79 : decode cX7_pairs 79 = .ok (.ireturn, 1) := by decide +kernel
theorem dX7_pairs_80 : decode cX7_pairs 80 = .ok (.aload_n 0, 1) := by decide +kernel
theorem dX7_pairs_81 : decode cX7_pairs 81 = .ok (.getfield 42, 3) := by decide +kernel
theorem dX7_pairs_84 : decode cX7_pairs 84 = .ok (.invokevirtual 178, 3) := by decide +kernel
theorem dX7_pairs_87 : decode cX7_pairs 87 = .ok (.ireturn, 1) := by decide +kernel
theorem dX7_pairs_88 : decode cX7_pairs 88 = .ok (.aload_n 0, 1) := by decide +kernel
theorem dX7_pairs_89 : decode cX7_pairs 89 = .ok (.getfield 42, 3) := by decide +kernel
theorem dX7_pairs_92 : decode cX7_pairs 92 = .ok (.invokevirtual 181, 3) := by decide +kernel
theorem dX7_pairs_95 : decode cX7_pairs 95 = .ok (.ireturn, 1) := by decide +kernel
theorem dX7_equal_0 : decode cX7_equal 0 = .ok (.iload_n 1, 1) := by decide +kernel
theorem dX7_equal_1 : decode cX7_equal 1 = .ok (.iload_n 2, 1) := by decide +kernel
theorem dX7_equal_2 : decode cX7_equal 2 = .ok (.invokestatic 122, 3) := by decide +kernel
theorem dX7_equal_5 : decode cX7_equal 5 = .ok (.ifCond .eq 10, 3) := by decide +kernel
theorem dX7_equal_8 : decode cX7_equal 8 = .ok (.iload_n 3, 1) := by decide +kernel
theorem dX7_equal_9 : decode cX7_equal 9 = .ok (.invokestatic 158, 3) := by decide +kernel
theorem dX7_equal_12 : decode cX7_equal 12 = .ok (.ifCond .ne 7, 3) := by decide +kernel
theorem dX7_equal_15 : decode cX7_equal 15 = .ok (.sipush (-10001), 3) := by decide +kernel
theorem dX7_equal_18 : decode cX7_equal 18 = .ok (.ireturn, 1) := by decide +kernel
theorem dX7_equal_19 : decode cX7_equal 19 = .ok (.aload_n 0, 1) := by decide +kernel
theorem dX7_equal_20 : decode cX7_equal 20 = .ok (.getfield 42, 3) := by decide +kernel
theorem dX7_equal_23 : decode cX7_equal 23 = .ok (.aload_n 0, 1) := by decide +kernel
theorem dX7_equal_24 : decode cX7_equal 24 = .ok (.getfield 53, 3) := by decide +kernel
theorem dX7_equal_27 : decode cX7_equal 27 = .ok (.aload_n 0, 1) := by decide +kernel
theorem dX7_equal_28 : decode cX7_equal 28 = .ok (.getfield 56, 3) := by decide +kernel
theorem dX7_equal_31 : decode cX7_equal 31 = .ok (.iload_n 1, 1) := by decide +kernel
theorem dX7_equal_32 : decode cX7_equal 32 = .ok (.iload_n 2, 1) := by decide +kernel
theorem dX7_equal_33 : decode cX7_equal 33 = .ok (.invokevirtual 168, 3) := by decide +kernel
theorem dX7_equal_36 : decode cX7_equal 36 = .ok (.aload_n 0, 1) := by decide +kernel
theorem dX7_equal_37 : decode cX7_equal 37 = .ok (.getfield 42, 3) := by decide +kernel
theorem dX7_equal_40 : decode cX7_equal 40 = .ok (.iload_n 3, 1) := by decide +kernel
theorem dX7_equal_41 : decode cX7_equal 41 = .ok (.invokevirtual 184, 3) := by decide +kernel
theorem dX7_equal_44 : decode cX7_equal 44 = .ok (.ireturn, 1) := by decide +kernel
theorem dX7_difference_0 : decode cX7_difference 0 = .ok (.iload_n 1, 1) := by decide +kernel
theorem dX7_difference_1 : decode cX7_difference 1 = .ok (.iload_n 2, 1) := by decide +kernel
theorem dX7_difference_2 : decode cX7_difference 2 = .ok (.invokestatic 122, 3) := by decide +kernel
theorem dX7_difference_5 : decode cX7_difference 5 = .ok (.ifCond .ne 7, 3) := by decide +kernel
theorem dX7_difference_8 : decode cX7_difference 8 = .ok (.sipush (-10001), 3) := by decide +kernel
theorem dX7_difference_11 : decode cX7_difference 11 = .ok (.ireturn, 1) := by decide +kernel
theorem dX7_difference_12 : decode cX7_difference 12 = .ok (.aload_n 0, 1) := by decide +kernel
theorem dX7_difference_13 : decode cX7_difference 13 = .ok (.getfield 42, 3) := by decide +kernel
theorem dX7_difference_16 : decode cX7_difference 16 = .ok (.aload_n 0, 1) := by decide +kernel
theorem dX7_difference_17 : decode cX7_difference 17 = .ok (.getfield 53, 3) := by decide +kernel
theorem dX7_difference_20 : decode cX7_difference 20 = .ok (.aload_n 0, 1) := by decide +kernel
theorem dX7_difference_21 : decode cX7_difference 21 = .ok (.getfield 56, 3) := by decide +kernel
theorem dX7_difference_24 : decode cX7_difference 24 = .ok (.iload_n 1, 1) := by decide +kernel
theorem dX7_difference_25 : decode cX7_difference 25 = .ok (.iload_n 2, 1) := by decide +kernel
theorem dX7_difference_26 : decode cX7_difference 26 = .ok (.invokevirtual 168, 3) := by decide +kernel
theorem dX7_difference_29 : decode cX7_difference 29 = .ok (.aload_n 0, 1) := by decide +kernel
theorem dX7_difference_30 : decode cX7_difference 30 = .ok (.getfield 42, 3) := by decide +kernel
theorem dX7_difference_33 : decode cX7_difference 33 = .ok (.getfield 187, 3) := by decide +kernel
theorem dX7_difference_36 : decode cX7_difference 36 = .ok (.getfield 135, 3) := by decide +kernel
theorem dX7_difference_39 : decode cX7_difference 39 = .ok (.aload_n 0, 1) := by decide +kernel
theorem dX7_difference_40 : decode cX7_difference 40 = .ok (.getfield 42, 3) := by decide +kernel
theorem dX7_difference_43 : decode cX7_difference 43 = .ok (.getfield 190, 3) := by decide +kernel
theorem dX7_difference_46 : decode cX7_difference 46 = .ok (.getfield 135, 3) := by decide +kernel
theorem dX7_difference_49 : decode cX7_difference 49 = .ok (.invokevirtual 192, 3) := by decide +kernel
theorem dX7_difference_52 : decode cX7_difference 52 = .ok (.ireturn, 1) := by decide +kernel
theorem dX7_agree_0 : decode cX7_agree 0 = .ok (.iload_n 1, 1) := by decide +kernel
theorem dX7_agree_1 : decode cX7_agree 1 = .ok (.bipush (-9), 2) := by decide +kernel
theorem dX7_agree_3 : decode cX7_agree 3 = .ok (.bipush 9, 2) := by decide +kernel
theorem dX7_agree_5 : decode cX7_agree 5 = .ok (.invokestatic 59, 3) := by decide +kernel
theorem dX7_agree_8 : decode cX7_agree 8 = .ok (.ifCond .eq 22, 3) := by decide +kernel
theorem dX7_agree_11 : decode cX7_agree 11 = .ok (.iload_n 2, 1) := by decide +kernel
theorem dX7_agree_12 : decode cX7_agree 12 = .ok (.iload_n 1, 1) := by decide +kernel
theorem dX7_agree_13 : decode cX7_agree 13 = .ok (.bipush 9, 2) := by decide +kernel
theorem dX7_agree_15 : decode cX7_agree 15 = .ok (.invokestatic 59, 3) := by decide +kernel
theorem dX7_agree_18 : decode cX7_agree 18 = .ok (.ifCond .eq 12, 3) := by decide +kernel
theorem dX7_agree_21 : decode cX7_agree 21 = .ok (.iload_n 3, 1) := by decide +kernel
theorem dX7_agree_22 : decode cX7_agree 22 = .ok (.iconst 0, 1) := by decide +kernel
theorem dX7_agree_23 : decode cX7_agree 23 = .ok (.iconst 2, 1) := by decide +kernel
theorem dX7_agree_24 : decode cX7_agree 24 = .ok (.invokestatic 59, 3) := by decide +kernel
theorem dX7_agree_27 : decode cX7_agree 27 = .ok (.ifCond .ne 7, 3) := by decide +kernel
theorem dX7_agree_30 : decode cX7_agree 30 = .ok (.sipush (-10001), 3) := by decide +kernel
theorem dX7_agree_33 : decode cX7_agree 33 = .ok (.ireturn, 1) := by decide +kernel
theorem dX7_agree_34 : decode cX7_agree 34 = .ok (.iconst 0, 1) := by decide +kernel
theorem dX7_agree_35 : decode cX7_agree 35 = .ok (.istore 4, 2) := by decide +kernel
theorem dX7_agree_37 : decode cX7_agree 37 = .ok (.iload_n 1, 1) := by decide +kernel
theorem dX7_agree_38 : decode cX7_agree 38 = .ok (.istore 5, 2) := by decide +kernel
theorem dX7_agree_40 : decode cX7_agree 40 = .ok (.iload 5, 2) := by decide +kernel
theorem dX7_agree_42 : decode cX7_agree 42 = .ok (.iload_n 2, 1) := by decide +kernel
theorem dX7_agree_43 : decode cX7_agree 43 = .ok (.if_icmp .gt 76, 3) := by decide +kernel
theorem dX7_agree_46 : decode cX7_agree 46 = .ok (.iload_n 1, 1) := by decide +kernel
theorem dX7_agree_47 : decode cX7_agree 47 = .ok (.istore 6, 2) := by decide +kernel
theorem dX7_agree_49 : decode cX7_agree 49 = .ok (.iload 6, 2) := by decide +kernel
theorem dX7_agree_51 : decode cX7_agree 51 = .ok (.iload_n 2, 1) := by decide +kernel
theorem dX7_agree_52 : decode cX7_agree 52 = .ok (.if_icmp .gt 61, 3) := by decide +kernel
theorem dX7_agree_55 : decode cX7_agree 55 = .ok (.aload_n 0, 1) := by decide +kernel
theorem dX7_agree_56 : decode cX7_agree 56 = .ok (.getfield 42, 3) := by decide +kernel
theorem dX7_agree_59 : decode cX7_agree 59 = .ok (.aload_n 0, 1) := by decide +kernel
theorem dX7_agree_60 : decode cX7_agree 60 = .ok (.getfield 53, 3) := by decide +kernel
theorem dX7_agree_63 : decode cX7_agree 63 = .ok (.aload_n 0, 1) := by decide +kernel
theorem dX7_agree_64 : decode cX7_agree 64 = .ok (.getfield 56, 3) := by decide +kernel
theorem dX7_agree_67 : decode cX7_agree 67 = .ok (.iload 5, 2) := by decide +kernel
theorem dX7_agree_69 : decode cX7_agree 69 = .ok (.iload 6, 2) := by decide +kernel
theorem dX7_agree_71 : decode cX7_agree 71 = .ok (.invokevirtual 168, 3) := by decide +kernel
theorem dX7_agree_74 : decode cX7_agree 74 = .ok (.aload_n 0, 1) := by decide +kernel
theorem dX7_agree_75 : decode cX7_agree 75 = .ok (.getfield 42, 3) := by decide +kernel
theorem dX7_agree_78 : decode cX7_agree 78 = .ok (.invokevirtual 196, 3) := by decide +kernel
theorem dX7_agree_81 : decode cX7_agree 81 = .ok (.ifCond .eq 9, 3) := by decide +kernel
theorem dX7_agree_84 : decode cX7_agree 84 = .ok (.iinc 4 1, 3) := by decide +kernel
theorem dX7_agree_87 : decode cX7_agree 87 = .ok (.goto 20, 3) := by decide +kernel
theorem dX7_agree_90 : decode cX7_agree 90 = .ok (.iload_n 3, 1) := by decide +kernel
theorem dX7_agree_91 : decode cX7_agree 91 = .ok (.ifCond .eq 16, 3) := by decide +kernel
theorem dX7_agree_94 : decode cX7_agree 94 = .ok (.iload_n 3, 1) := by decide +kernel
theorem dX7_agree_95 : decode cX7_agree 95 = .ok (.iconst 1, 1) := by decide +kernel
theorem dX7_agree_96 : decode cX7_agree 96 = .ok (.if_icmp .ne 8, 3) := by decide +kernel
theorem dX7_agree_99 : decode cX7_agree 99 = .ok (.iload 5, 2) := by decide +kernel
theorem dX7_agree_101 : decode cX7_agree 101 = .ok (.goto 5, 3) := by decide +kernel
theorem dX7_agree_104 : decode cX7_agree 104 = .ok (.iload 6, 2) := by decide +kernel
theorem dX7_agree_106 : decode cX7_agree 106 = .ok (.ireturn, 1) := by decide +kernel
theorem dX7_agree_107 : decode cX7_agree 107 = .ok (.iinc 6 1, 3) := by decide +kernel
theorem dX7_agree_110 : decode cX7_agree 110 = .ok (.goto (-61), 3) := by decide +kernel
theorem dX7_agree_113 : decode cX7_agree 113 = .ok (.iinc 5 1, 3) := by decide +kernel
theorem dX7_agree_116 : decode cX7_agree 116 = .ok (.goto (-76), 3) := by decide +kernel
theorem dX7_agree_119 : decode cX7_agree 119 = .ok (.iload_n 3, 1) := by decide +kernel
theorem dX7_agree_120 : decode cX7_agree 120 = .ok (.ifCond .ne 8, 3) := by decide +kernel
theorem dX7_agree_123 : decode cX7_agree 123 = .ok (.iload 4, 2) := by decide +kernel
theorem dX7_agree_125 : decode cX7_agree 125 = .ok (.goto 6, 3) := by decide +kernel
theorem dX7_agree_128 : decode cX7_agree 128 = .ok (.sipush (-10009), 3) := by decide +kernel
theorem dX7_agree_131 : decode cX7_agree 131 = .ok (.ireturn, 1) := by decide +kernel
theorem dX7_always_0 : decode cX7_always 0 = .ok (.iload_n 1, 1) := by decide +kernel
theorem dX7_always_1 : decode cX7_always 1 = .ok (.invokestatic 158, 3) := by decide +kernel
theorem dX7_always_4 : decode cX7_always 4 = .ok (.ifCond .ne 7, 3) := by decide +kernel
theorem dX7_always_7 : decode cX7_always 7 = .ok (.sipush (-10001), 3) := by decide +kernel
theorem dX7_always_10 : decode cX7_always 10 = .ok (.ireturn, 1) := by decide +kernel
theorem dX7_always_11 : decode cX7_always 11 = .ok (.bipush 63, 2) := by decide +kernel
theorem dX7_always_13 : decode cX7_always 13 = .ok (.istore_n 2, 1) := by decide +kernel
theorem dX7_always_14 : decode cX7_always 14 = .ok (.iconst 0, 1) := by decide +kernel
theorem dX7_always_15 : decode cX7_always 15 = .ok (.istore_n 3, 1) := by decide +kernel
theorem dX7_always_16 : decode cX7_always 16 = .ok (.iload_n 3, 1) := by decide +kernel
theorem dX7_always_17 : decode cX7_always 17 = .ok (.bipush 16, 2) := by decide +kernel
theorem dX7_always_19 : decode cX7_always 19 = .ok (.if_icmp .ge 43, 3) := by decide +kernel
theorem dX7_always_22 : decode cX7_always 22 = .ok (.aload_n 0, 1) := by decide +kernel
theorem dX7_always_23 : decode cX7_always 23 = .ok (.getfield 42, 3) := by decide +kernel
theorem dX7_always_26 : decode cX7_always 26 = .ok (.aload_n 0, 1) := by decide +kernel
theorem dX7_always_27 : decode cX7_always 27 = .ok (.getfield 53, 3) := by decide +kernel
theorem dX7_always_30 : decode cX7_always 30 = .ok (.aload_n 0, 1) := by decide +kernel
theorem dX7_always_31 : decode cX7_always 31 = .ok (.getfield 56, 3) := by decide +kernel
theorem dX7_always_34 : decode cX7_always 34 = .ok (.iload_n 3, 1) := by decide +kernel
theorem dX7_always_35 : decode cX7_always 35 = .ok (.invokestatic 199, 3) := by decide +kernel
theorem dX7_always_38 : decode cX7_always 38 = .ok (.iload_n 3, 1) := by decide +kernel
theorem dX7_always_39 : decode cX7_always 39 = .ok (.invokestatic 202, 3) := by decide +kernel
theorem dX7_always_42 : decode cX7_always 42 = .ok (.invokevirtual 168, 3) := by decide +kernel
theorem dX7_always_45 : decode cX7_always 45 = .ok (.iload_n 2, 1) := by decide +kernel
theorem dX7_always_46 : decode cX7_always 46 = .ok (.aload_n 0, 1) := by decide +kernel
theorem dX7_always_47 : decode cX7_always 47 = .ok (.getfield 42, 3) := by decide +kernel
theorem dX7_always_50 : decode cX7_always 50 = .ok (.iload_n 1, 1) := by decide +kernel
theorem dX7_always_51 : decode cX7_always 51 = .ok (.invokevirtual 184, 3) := by decide +kernel
theorem dX7_always_54 : decode cX7_always 54 = .ok (.iand, 1) := by decide +kernel
theorem dX7_always_55 : decode cX7_always 55 = .ok (.istore_n 2, 1) := by decide +kernel
theorem dX7_always_56 : decode cX7_always 56 = .ok (.iinc 3 1, 3) := by decide +kernel
theorem dX7_always_59 : decode cX7_always 59 = .ok (.goto (-43), 3) := by decide +kernel
theorem dX7_always_62 : decode cX7_always 62 = .ok (.iload_n 2, 1) := by decide +kernel
theorem dX7_always_63 : decode cX7_always 63 = .ok (.ireturn, 1) := by decide +kernel
theorem dX7_idle_0 : decode cX7_idle 0 = .ok (.iload_n 1, 1) := by decide +kernel
theorem dX7_idle_1 : decode cX7_idle 1 = .ok (.invokestatic 75, 3) := by decide +kernel
theorem dX7_idle_4 : decode cX7_idle 4 = .ok (.ifCond .ne 7, 3) := by decide +kernel
theorem dX7_idle_7 : decode cX7_idle 7 = .ok (.sipush (-10001), 3) := by decide +kernel
theorem dX7_idle_10 : decode cX7_idle 10 = .ok (.ireturn, 1) := by decide +kernel
theorem dX7_idle_11 : decode cX7_idle 11 = .ok (.aload_n 0, 1) := by decide +kernel
theorem dX7_idle_12 : decode cX7_idle 12 = .ok (.iload_n 1, 1) := by decide +kernel
theorem dX7_idle_13 : decode cX7_idle 13 = .ok (.invokevirtual 89, 3) := by decide +kernel
theorem dX7_idle_16 : decode cX7_idle 16 = .ok (.astore_n 2, 1) := by decide +kernel
theorem dX7_idle_17 : decode cX7_idle 17 = .ok (.aload_n 0, 1) := by decide +kernel
theorem dX7_idle_18 : decode cX7_idle 18 = .ok (.aload_n 2, 1) := by decide +kernel
theorem dX7_idle_19 : decode cX7_idle 19 = .ok (.invokevirtual 205, 3) := by decide +kernel
theorem dX7_idle_22 : decode cX7_idle 22 = .ok (.iconst 0, 1) := by decide +kernel
theorem dX7_idle_23 : decode cX7_idle 23 = .ok (.istore_n 3, 1) := by decide +kernel
theorem dX7_idle_24 : decode cX7_idle 24 = .ok (.iload_n 3, 1) := by decide +kernel
theorem dX7_idle_25 : decode cX7_idle 25 = .ok (.aload_n 2, 1) := by decide +kernel
theorem dX7_idle_26 : decode cX7_idle 26 = .ok (.getfield 97, 3) := by decide +kernel
theorem dX7_idle_29 : decode cX7_idle 29 = .ok (.if_icmp .ge 38, 3) := by decide +kernel
theorem dX7_idle_32 : decode cX7_idle 32 = .ok (.aload_n 0, 1) := by decide +kernel
theorem dX7_idle_33 : decode cX7_idle 33 = .ok (.getfield 19, 3) := by decide +kernel
theorem dX7_idle_36 : decode cX7_idle 36 = .ok (.aload_n 2, 1) := by decide +kernel
theorem dX7_idle_37 : decode cX7_idle 37 = .ok (.invokevirtual 93, 3) := by decide +kernel
theorem dX7_idle_40 : decode cX7_idle 40 = .ok (.aload_n 0, 1) := by decide +kernel
theorem dX7_idle_41 : decode cX7_idle 41 = .ok (.getfield 19, 3) := by decide +kernel
theorem dX7_idle_44 : decode cX7_idle 44 = .ok (.iload_n 3, 1) := by decide +kernel
theorem dX7_idle_45 : decode cX7_idle 45 = .ok (.invokevirtual 103, 3) := by decide +kernel
theorem dX7_idle_48 : decode cX7_idle 48 = .ok (.aload_n 0, 1) := by decide +kernel
theorem dX7_idle_49 : decode cX7_idle 49 = .ok (.aload_n 0, 1) := by decide +kernel
theorem dX7_idle_50 : decode cX7_idle 50 = .ok (.getfield 19, 3) := by decide +kernel
theorem dX7_idle_53 : decode cX7_idle 53 = .ok (.invokevirtual 208, 3) := by decide +kernel
theorem dX7_idle_56 : decode cX7_idle 56 = .ok (.ifCond .eq 5, 3) := by decide +kernel
theorem dX7_idle_59 : decode cX7_idle 59 = .ok (.iload_n 3, 1) := by decide +kernel
theorem dX7_idle_60 : decode cX7_idle 60 = .ok (.ireturn, 1) := by decide +kernel
theorem dX7_idle_61 : decode cX7_idle 61 = .ok (.iinc 3 1, 3) := by decide +kernel
theorem dX7_idle_64 : decode cX7_idle 64 = .ok (.goto (-40), 3) := by decide +kernel
theorem dX7_idle_67 : decode cX7_idle 67 = .ok (.sipush (-10009), 3) := by decide +kernel
theorem dX7_idle_70 : decode cX7_idle 70 = .ok (.ireturn, 1) := by decide +kernel
theorem dX7_keepOutputsOf_0 : decode cX7_keepOutputsOf 0 = .ok (.aload_n 0, 1) := by decide +kernel
theorem dX7_keepOutputsOf_1 : decode cX7_keepOutputsOf 1 = .ok (.getfield 42, 3) := by decide +kernel
theorem dX7_keepOutputsOf_4 : decode cX7_keepOutputsOf 4 = .ok (.getfield 187, 3) := by decide +kernel
theorem dX7_keepOutputsOf_7 : decode cX7_keepOutputsOf 7 = .ok (.astore_n 2, 1) := by decide +kernel
theorem dX7_keepOutputsOf_8 : decode cX7_keepOutputsOf 8 = .ok (.iconst 0, 1) := by decide +kernel
theorem dX7_keepOutputsOf_9 : decode cX7_keepOutputsOf 9 = .ok (.istore_n 3, 1) := by decide +kernel
theorem dX7_keepOutputsOf_10 : decode cX7_keepOutputsOf 10 = .ok (.iload_n 3, 1) := by decide +kernel
theorem dX7_keepOutputsOf_11 : decode cX7_keepOutputsOf 11 = .ok (.bipush 16, 2) := by decide +kernel
theorem dX7_keepOutputsOf_13 : decode cX7_keepOutputsOf 13 = .ok (.if_icmp .ge 35, 3) := by decide +kernel
theorem dX7_keepOutputsOf_16 : decode cX7_keepOutputsOf 16 = .ok (.aload_n 2, 1) := by decide +kernel
theorem dX7_keepOutputsOf_17 : decode cX7_keepOutputsOf 17 = .ok (.aload_n 1, 1) := by decide +kernel
theorem dX7_keepOutputsOf_18 : decode cX7_keepOutputsOf 18 = .ok (.iload_n 3, 1) := by decide +kernel
theorem dX7_keepOutputsOf_19 : decode cX7_keepOutputsOf 19 = .ok (.invokestatic 199, 3) := by decide +kernel
theorem dX7_keepOutputsOf_22 : decode cX7_keepOutputsOf 22 = .ok (.iload_n 3, 1) := by decide +kernel
theorem dX7_keepOutputsOf_23 : decode cX7_keepOutputsOf 23 = .ok (.invokestatic 202, 3) := by decide +kernel
theorem dX7_keepOutputsOf_26 : decode cX7_keepOutputsOf 26 = .ok (.invokevirtual 212, 3) := by decide +kernel
theorem dX7_keepOutputsOf_29 : decode cX7_keepOutputsOf 29 = .ok (.aload_n 0, 1) := by decide +kernel
theorem dX7_keepOutputsOf_30 : decode cX7_keepOutputsOf 30 = .ok (.getfield 48, 3) := by decide +kernel
theorem dX7_keepOutputsOf_33 : decode cX7_keepOutputsOf 33 = .ok (.iload_n 3, 1) := by decide +kernel
theorem dX7_keepOutputsOf_34 : decode cX7_keepOutputsOf 34 = .ok (.aaload, 1) := by decide +kernel
theorem dX7_keepOutputsOf_35 : decode cX7_keepOutputsOf 35 = .ok (.aload_n 2, 1) := by decide +kernel
theorem dX7_keepOutputsOf_36 : decode cX7_keepOutputsOf 36 = .ok (.getfield 135, 3) := by decide +kernel
theorem dX7_keepOutputsOf_39 : decode cX7_keepOutputsOf 39 = .ok (.invokevirtual 215, 3) := by decide +kernel
theorem dX7_keepOutputsOf_42 : decode cX7_keepOutputsOf 42 = .ok (.iinc 3 1, 3) := by decide +kernel
theorem dX7_keepOutputsOf_45 : decode cX7_keepOutputsOf 45 = .ok (.goto (-35), 3) := by decide +kernel
theorem dX7_keepOutputsOf_48 : decode cX7_keepOutputsOf 48 = .ok (.return_, 1) := by decide +kernel
theorem dX7_putsOutAsBefore_0 : decode cX7_putsOutAsBefore 0 = .ok (.aload_n 0, 1) := by decide +kernel
theorem dX7_putsOutAsBefore_1 : decode cX7_putsOutAsBefore 1 = .ok (.getfield 42, 3) := by decide +kernel
theorem dX7_putsOutAsBefore_4 : decode cX7_putsOutAsBefore 4 = .ok (.getfield 187, 3) := by decide +kernel
theorem dX7_putsOutAsBefore_7 : decode cX7_putsOutAsBefore 7 = .ok (.astore_n 2, 1) := by decide +kernel
theorem dX7_putsOutAsBefore_8 : decode cX7_putsOutAsBefore 8 = .ok (.iconst 0, 1) := by decide +kernel
theorem dX7_putsOutAsBefore_9 : decode cX7_putsOutAsBefore 9 = .ok (.istore_n 3, 1) := by decide +kernel
theorem dX7_putsOutAsBefore_10 : decode cX7_putsOutAsBefore 10 = .ok (.iload_n 3, 1) := by decide +kernel
theorem dX7_putsOutAsBefore_11 : decode cX7_putsOutAsBefore 11 = .ok (.bipush 16, 2) := by decide +kernel
theorem dX7_putsOutAsBefore_13 : decode cX7_putsOutAsBefore 13 = .ok (.if_icmp .ge 59, 3) := by decide +kernel
theorem dX7_putsOutAsBefore_16 : decode cX7_putsOutAsBefore 16 = .ok (.aload_n 2, 1) := by decide +kernel
theorem dX7_putsOutAsBefore_17 : decode cX7_putsOutAsBefore 17 = .ok (.aload_n 1, 1) := by decide +kernel
theorem dX7_putsOutAsBefore_18 : decode cX7_putsOutAsBefore 18 = .ok (.iload_n 3, 1) := by decide +kernel
theorem dX7_putsOutAsBefore_19 : decode cX7_putsOutAsBefore 19 = .ok (.invokestatic 199, 3) := by decide +kernel
theorem dX7_putsOutAsBefore_22 : decode cX7_putsOutAsBefore 22 = .ok (.iload_n 3, 1) := by decide +kernel
theorem dX7_putsOutAsBefore_23 : decode cX7_putsOutAsBefore 23 = .ok (.invokestatic 202, 3) := by decide +kernel
theorem dX7_putsOutAsBefore_26 : decode cX7_putsOutAsBefore 26 = .ok (.invokevirtual 212, 3) := by decide +kernel
theorem dX7_putsOutAsBefore_29 : decode cX7_putsOutAsBefore 29 = .ok (.aload_n 0, 1) := by decide +kernel
theorem dX7_putsOutAsBefore_30 : decode cX7_putsOutAsBefore 30 = .ok (.getfield 48, 3) := by decide +kernel
theorem dX7_putsOutAsBefore_33 : decode cX7_putsOutAsBefore 33 = .ok (.iload_n 3, 1) := by decide +kernel
theorem dX7_putsOutAsBefore_34 : decode cX7_putsOutAsBefore 34 = .ok (.aaload, 1) := by decide +kernel
theorem dX7_putsOutAsBefore_35 : decode cX7_putsOutAsBefore 35 = .ok (.astore 4, 2) := by decide +kernel
theorem dX7_putsOutAsBefore_37 : decode cX7_putsOutAsBefore 37 = .ok (.aload 4, 2) := by decide +kernel
theorem dX7_putsOutAsBefore_39 : decode cX7_putsOutAsBefore 39 = .ok (.getfield 139, 3) := by decide +kernel
theorem dX7_putsOutAsBefore_42 : decode cX7_putsOutAsBefore 42 = .ok (.aload_n 2, 1) := by decide +kernel
theorem dX7_putsOutAsBefore_43 : decode cX7_putsOutAsBefore 43 = .ok (.getfield 135, 3) := by decide +kernel
theorem dX7_putsOutAsBefore_46 : decode cX7_putsOutAsBefore 46 = .ok (.getfield 139, 3) := by decide +kernel
theorem dX7_putsOutAsBefore_49 : decode cX7_putsOutAsBefore 49 = .ok (.if_icmp .ne 15, 3) := by decide +kernel
theorem dX7_putsOutAsBefore_52 : decode cX7_putsOutAsBefore 52 = .ok (.aload 4, 2) := by decide +kernel
theorem dX7_putsOutAsBefore_54 : decode cX7_putsOutAsBefore 54 = .ok (.aload_n 2, 1) := by decide +kernel
theorem dX7_putsOutAsBefore_55 : decode cX7_putsOutAsBefore 55 = .ok (.getfield 135, 3) := by decide +kernel
theorem dX7_putsOutAsBefore_58 : decode cX7_putsOutAsBefore 58 = .ok (.invokevirtual 218, 3) := by decide +kernel
theorem dX7_putsOutAsBefore_61 : decode cX7_putsOutAsBefore 61 = .ok (.ifCond .ne 5, 3) := by decide +kernel
theorem dX7_putsOutAsBefore_64 : decode cX7_putsOutAsBefore 64 = .ok (.iconst 0, 1) := by decide +kernel
theorem dX7_putsOutAsBefore_65 : decode cX7_putsOutAsBefore 65 = .ok (.ireturn, 1) := by decide +kernel
theorem dX7_putsOutAsBefore_66 : decode cX7_putsOutAsBefore 66 = .ok (.iinc 3 1, 3) := by decide +kernel
theorem dX7_putsOutAsBefore_69 : decode cX7_putsOutAsBefore 69 = .ok (.goto (-59), 3) := by decide +kernel
theorem dX7_putsOutAsBefore_72 : decode cX7_putsOutAsBefore 72 = .ok (.iconst 1, 1) := by decide +kernel
theorem dX7_putsOutAsBefore_73 : decode cX7_putsOutAsBefore 73 = .ok (.ireturn, 1) := by decide +kernel
theorem dX7_listingOf_0 : decode cX7_listingOf 0 = .ok (.iload_n 1, 1) := by decide +kernel
theorem dX7_listingOf_1 : decode cX7_listingOf 1 = .ok (.ifCond .ne 10, 3) := by decide +kernel
theorem dX7_listingOf_4 : decode cX7_listingOf 4 = .ok (.aload_n 0, 1) := by decide +kernel
theorem dX7_listingOf_5 : decode cX7_listingOf 5 = .ok (.getfield 53, 3) := by decide +kernel
theorem dX7_listingOf_8 : decode cX7_listingOf 8 = .ok (.goto 7, 3) := by decide +kernel
theorem dX7_listingOf_11 : decode cX7_listingOf 11 = .ok (.aload_n 0, 1) := by decide +kernel
theorem dX7_listingOf_12 : decode cX7_listingOf 12 = .ok (.getfield 56, 3) := by decide +kernel
theorem dX7_listingOf_15 : decode cX7_listingOf 15 = .ok (.areturn, 1) := by decide +kernel
theorem dX7_traceOf_0 : decode cX7_traceOf 0 = .ok (.aload_n 0, 1) := by decide +kernel
theorem dX7_traceOf_1 : decode cX7_traceOf 1 = .ok (.getfield 42, 3) := by decide +kernel
theorem dX7_traceOf_4 : decode cX7_traceOf 4 = .ok (.getfield 187, 3) := by decide +kernel
theorem dX7_traceOf_7 : decode cX7_traceOf 7 = .ok (.aload_n 0, 1) := by decide +kernel
theorem dX7_traceOf_8 : decode cX7_traceOf 8 = .ok (.iload_n 1, 1) := by decide +kernel
theorem dX7_traceOf_9 : decode cX7_traceOf 9 = .ok (.invokevirtual 89, 3) := by decide +kernel
theorem dX7_traceOf_12 : decode cX7_traceOf 12 = .ok (.iload_n 2, 1) := by decide +kernel
theorem dX7_traceOf_13 : decode cX7_traceOf 13 = .ok (.iload_n 3, 1) := by decide +kernel
theorem dX7_traceOf_14 : decode cX7_traceOf 14 = .ok (.invokevirtual 212, 3) := by decide +kernel
theorem dX7_traceOf_17 : decode cX7_traceOf 17 = .ok (.aload_n 0, 1) := by decide +kernel
theorem dX7_traceOf_18 : decode cX7_traceOf 18 = .ok (.getfield 42, 3) := by decide +kernel
theorem dX7_traceOf_21 : decode cX7_traceOf 21 = .ok (.getfield 187, 3) := by decide +kernel
theorem dX7_traceOf_24 : decode cX7_traceOf 24 = .ok (.areturn, 1) := by decide +kernel
theorem dX7_triedFirst_0 : decode cX7_triedFirst 0 = .ok (.iload_n 0, 1) := by decide +kernel
theorem dX7_triedFirst_1 : decode cX7_triedFirst 1 = .ok (.iconst 4, 1) := by decide +kernel
theorem dX7_triedFirst_2 : decode cX7_triedFirst 2 = .ok (.idiv, 1) := by decide +kernel
theorem dX7_triedFirst_3 : decode cX7_triedFirst 3 = .ok (.ireturn, 1) := by decide +kernel
theorem dX7_triedSecond_0 : decode cX7_triedSecond 0 = .ok (.iload_n 0, 1) := by decide +kernel
theorem dX7_triedSecond_1 : decode cX7_triedSecond 1 = .ok (.iconst 4, 1) := by decide +kernel
theorem dX7_triedSecond_2 : decode cX7_triedSecond 2 = .ok (.irem, 1) := by decide +kernel
theorem dX7_triedSecond_3 : decode cX7_triedSecond 3 = .ok (.ireturn, 1) := by decide +kernel
theorem dX7_isWithin_0 : decode cX7_isWithin 0 = .ok (.iload_n 0, 1) := by decide +kernel
theorem dX7_isWithin_1 : decode cX7_isWithin 1 = .ok (.iload_n 1, 1) := by decide +kernel
theorem dX7_isWithin_2 : decode cX7_isWithin 2 = .ok (.if_icmp .lt 12, 3) := by decide +kernel
theorem dX7_isWithin_5 : decode cX7_isWithin 5 = .ok (.iload_n 0, 1) := by decide +kernel
theorem dX7_isWithin_6 : decode cX7_isWithin 6 = .ok (.iload_n 2, 1) := by decide +kernel
theorem dX7_isWithin_7 : decode cX7_isWithin 7 = .ok (.if_icmp .gt 7, 3) := by decide +kernel
theorem dX7_isWithin_10 : decode cX7_isWithin 10 = .ok (.iconst 1, 1) := by decide +kernel
theorem dX7_isWithin_11 : decode cX7_isWithin 11 = .ok (.goto 4, 3) := by decide +kernel
theorem dX7_isWithin_14 : decode cX7_isWithin 14 = .ok (.iconst 0, 1) := by decide +kernel
theorem dX7_isWithin_15 : decode cX7_isWithin 15 = .ok (.ireturn, 1) := by decide +kernel
theorem dX7_isProgram_0 : decode cX7_isProgram 0 = .ok (.iload_n 0, 1) := by decide +kernel
theorem dX7_isProgram_1 : decode cX7_isProgram 1 = .ok (.iconst 0, 1) := by decide +kernel
theorem dX7_isProgram_2 : decode cX7_isProgram 2 = .ok (.iconst 1, 1) := by decide +kernel
theorem dX7_isProgram_3 : decode cX7_isProgram 3 = .ok (.invokestatic 59, 3) := by decide +kernel
theorem dX7_isProgram_6 : decode cX7_isProgram 6 = .ok (.ireturn, 1) := by decide +kernel
theorem dX7_isCell_0 : decode cX7_isCell 0 = .ok (.iload_n 0, 1) := by decide +kernel
theorem dX7_isCell_1 : decode cX7_isCell 1 = .ok (.iconst 0, 1) := by decide +kernel
theorem dX7_isCell_2 : decode cX7_isCell 2 = .ok (.iconst 5, 1) := by decide +kernel
theorem dX7_isCell_3 : decode cX7_isCell 3 = .ok (.invokestatic 59, 3) := by decide +kernel
theorem dX7_isCell_6 : decode cX7_isCell 6 = .ok (.ireturn, 1) := by decide +kernel
theorem dX7_isInput_0 : decode cX7_isInput 0 = .ok (.iload_n 0, 1) := by decide +kernel
theorem dX7_isInput_1 : decode cX7_isInput 1 = .ok (.sipush (-999), 3) := by decide +kernel
theorem dX7_isInput_4 : decode cX7_isInput 4 = .ok (.sipush 999, 3) := by decide +kernel
theorem dX7_isInput_7 : decode cX7_isInput 7 = .ok (.invokestatic 59, 3) := by decide +kernel
theorem dX7_isInput_10 : decode cX7_isInput 10 = .ok (.ifCond .eq 20, 3) := by decide +kernel
theorem dX7_isInput_13 : decode cX7_isInput 13 = .ok (.iload_n 1, 1) := by decide +kernel
theorem dX7_isInput_14 : decode cX7_isInput 14 = .ok (.sipush (-999), 3) := by decide +kernel
theorem dX7_isInput_17 : decode cX7_isInput 17 = .ok (.sipush 999, 3) := by decide +kernel
theorem dX7_isInput_20 : decode cX7_isInput 20 = .ok (.invokestatic 59, 3) := by decide +kernel
theorem dX7_isInput_23 : decode cX7_isInput 23 = .ok (.ifCond .eq 7, 3) := by decide +kernel
theorem dX7_isInput_26 : decode cX7_isInput 26 = .ok (.iconst 1, 1) := by decide +kernel
theorem dX7_isInput_27 : decode cX7_isInput 27 = .ok (.goto 4, 3) := by decide +kernel
theorem dX7_isInput_30 : decode cX7_isInput 30 = .ok (.iconst 0, 1) := by decide +kernel
theorem dX7_isInput_31 : decode cX7_isInput 31 = .ok (.ireturn, 1) := by decide +kernel
theorem dX8_init_0 : decode cX8_init 0 = .ok (.aload_n 0, 1) := by decide +kernel
theorem dX8_init_1 : decode cX8_init 1 = .ok (.invokespecial 1, 3) := by decide +kernel
theorem dX8_init_4 : decode cX8_init 4 = .ok (.aload_n 0, 1) := by decide +kernel
theorem dX8_init_5 : decode cX8_init 5 = .ok (.sipush 842, 3) := by decide +kernel
theorem dX8_init_8 : decode cX8_init 8 = .ok (.newarray .int, 2) := by decide +kernel
theorem dX8_init_10 : decode cX8_init 10 = .ok (.putfield 7, 3) := by decide +kernel
theorem dX8_init_13 : decode cX8_init 13 = .ok (.aload_n 0, 1) := by decide +kernel
theorem dX8_init_14 : decode cX8_init 14 = .ok (.sipush 4210, 3) := by decide +kernel
theorem dX8_init_17 : decode cX8_init 17 = .ok (.newarray .int, 2) := by decide +kernel
theorem dX8_init_19 : decode cX8_init 19 = .ok (.putfield 13, 3) := by decide +kernel
theorem dX8_init_22 : decode cX8_init 22 = .ok (.aload_n 0, 1) := by decide +kernel
theorem dX8_init_23 : decode cX8_init 23 = .ok (.bipush 120, 2) := by decide +kernel
theorem dX8_init_25 : decode cX8_init 25 = .ok (.newarray .int, 2) := by decide +kernel
theorem dX8_init_27 : decode cX8_init 27 = .ok (.putfield 16, 3) := by decide +kernel
theorem dX8_init_30 : decode cX8_init 30 = .ok (.aload_n 0, 1) := by decide +kernel
theorem dX8_init_31 : decode cX8_init 31 = .ok (.sipush 421, 3) := by decide +kernel
theorem dX8_init_34 : decode cX8_init 34 = .ok (.newarray .int, 2) := by decide +kernel
theorem dX8_init_36 : decode cX8_init 36 = .ok (.putfield 19, 3) := by decide +kernel
theorem dX8_init_39 : decode cX8_init 39 = .ok (.aload_n 0, 1) := by decide +kernel
theorem dX8_init_40 : decode cX8_init 40 = .ok (.iconst 5, 1) := by decide +kernel
theorem dX8_init_41 : decode cX8_init 41 = .ok (.newarray .int, 2) := by decide +kernel
theorem dX8_init_43 : decode cX8_init 43 = .ok (.putfield 22, 3) := by decide +kernel
theorem dX8_init_46 : decode cX8_init 46 = .ok (.aload_n 0, 1) := by decide +kernel
theorem dX8_init_47 : decode cX8_init 47 = .ok (.iconst 5, 1) := by decide +kernel
theorem dX8_init_48 : decode cX8_init 48 = .ok (.newarray .int, 2) := by decide +kernel
theorem dX8_init_50 : decode cX8_init 50 = .ok (.putfield 25, 3) := by decide +kernel
theorem dX8_init_53 : decode cX8_init 53 = .ok (.aload_n 0, 1) := by decide +kernel
theorem dX8_init_54 : decode cX8_init 54 = .ok (.bipush 12, 2) := by decide +kernel
theorem dX8_init_56 : decode cX8_init 56 = .ok (.newarray .int, 2) := by decide +kernel
theorem dX8_init_58 : decode cX8_init 58 = .ok (.putfield 28, 3) := by decide +kernel
theorem dX8_init_61 : decode cX8_init 61 = .ok (.aload_n 0, 1) := by decide +kernel
theorem dX8_init_62 : decode cX8_init 62 = .ok (.bipush 80, 2) := by decide +kernel
theorem dX8_init_64 : decode cX8_init 64 = .ok (.newarray .int, 2) := by decide +kernel
theorem dX8_init_66 : decode cX8_init 66 = .ok (.putfield 31, 3) := by decide +kernel
theorem dX8_init_69 : decode cX8_init 69 = .ok (.aload_n 0, 1) := by decide +kernel
theorem dX8_init_70 : decode cX8_init 70 = .ok (.bipush 80, 2) := by decide +kernel
theorem dX8_init_72 : decode cX8_init 72 = .ok (.newarray .int, 2) := by decide +kernel
theorem dX8_init_74 : decode cX8_init 74 = .ok (.putfield 34, 3) := by decide +kernel
theorem dX8_init_77 : decode cX8_init 77 = .ok (.aload_n 0, 1) := by decide +kernel
theorem dX8_init_78 : decode cX8_init 78 = .ok (.sipush 480, 3) := by decide +kernel
theorem dX8_init_81 : decode cX8_init 81 = .ok (.newarray .int, 2) := by decide +kernel
theorem dX8_init_83 : decode cX8_init 83 = .ok (.putfield 37, 3) := by decide +kernel
theorem dX8_init_86 : decode cX8_init 86 = .ok (.aload_n 0, 1) := by decide +kernel
theorem dX8_init_87 : decode cX8_init 87 = .ok (.bipush 12, 2) := by decide +kernel
theorem dX8_init_89 : decode cX8_init 89 = .ok (.newarray .int, 2) := by decide +kernel
theorem dX8_init_91 : decode cX8_init 91 = .ok (.putfield 40, 3) := by decide +kernel
theorem dX8_init_94 : decode cX8_init 94 = .ok (.aload_n 0, 1) := by decide +kernel
theorem dX8_init_95 : decode cX8_init 95 = .ok (.bipush 6, 2) := by decide +kernel
theorem dX8_init_97 : decode cX8_init 97 = .ok (.newarray .int, 2) := by decide +kernel
theorem dX8_init_99 : decode cX8_init 99 = .ok (.putfield 43, 3) := by decide +kernel
theorem dX8_init_102 : decode cX8_init 102 = .ok (.aload_n 0, 1) := by decide +kernel
theorem dX8_init_103 : decode cX8_init 103 = .ok (.bipush 6, 2) := by decide +kernel
theorem dX8_init_105 : decode cX8_init 105 = .ok (.newarray .int, 2) := by decide +kernel
theorem dX8_init_107 : decode cX8_init 107 = .ok (.putfield 46, 3) := by decide +kernel
theorem dX8_init_110 : decode cX8_init 110 = .ok (.aload_n 0, 1) := by decide +kernel
theorem dX8_init_111 : decode cX8_init 111 = .ok (.bipush 6, 2) := by decide +kernel
theorem dX8_init_113 : decode cX8_init 113 = .ok (.newarray .int, 2) := by decide +kernel
theorem dX8_init_115 : decode cX8_init 115 = .ok (.putfield 49, 3) := by decide +kernel
theorem dX8_init_118 : decode cX8_init 118 = .ok (.aload_n 0, 1) := by decide +kernel
theorem dX8_init_119 : decode cX8_init 119 = .ok (.sipush 640, 3) := by decide +kernel
theorem dX8_init_122 : decode cX8_init 122 = .ok (.newarray .int, 2) := by decide +kernel
theorem dX8_init_124 : decode cX8_init 124 = .ok (.putfield 52, 3) := by decide +kernel
theorem dX8_init_127 : decode cX8_init 127 = .ok (.aload_n 0, 1) := by decide +kernel
theorem dX8_init_128 : decode cX8_init 128 = .ok (.bipush 16, 2) := by decide +kernel
theorem dX8_init_130 : decode cX8_init 130 = .ok (.newarray .int, 2) := by decide +kernel
theorem dX8_init_132 : decode cX8_init 132 = .ok (.putfield 55, 3) := by decide +kernel
theorem dX8_init_135 : decode cX8_init 135 = .ok (.aload_n 0, 1) := by decide +kernel
theorem dX8_init_136 : decode cX8_init 136 = .ok (.bipush 16, 2) := by decide +kernel
theorem dX8_init_138 : decode cX8_init 138 = .ok (.newarray .int, 2) := by decide +kernel
theorem dX8_init_140 : decode cX8_init 140 = .ok (.putfield 58, 3) := by decide +kernel
theorem dX8_init_143 : decode cX8_init 143 = .ok (.return_, 1) := by decide +kernel
theorem dX8_within_0 : decode cX8_within 0 = .ok (.iload_n 0, 1) := by decide +kernel
theorem dX8_within_1 : decode cX8_within 1 = .ok (.iload_n 1, 1) := by decide +kernel
theorem dX8_within_2 : decode cX8_within 2 = .ok (.if_icmp .lt 12, 3) := by decide +kernel
theorem dX8_within_5 : decode cX8_within 5 = .ok (.iload_n 0, 1) := by decide +kernel
theorem dX8_within_6 : decode cX8_within 6 = .ok (.iload_n 2, 1) := by decide +kernel
theorem dX8_within_7 : decode cX8_within 7 = .ok (.if_icmp .gt 7, 3) := by decide +kernel
theorem dX8_within_10 : decode cX8_within 10 = .ok (.iconst 1, 1) := by decide +kernel
theorem dX8_within_11 : decode cX8_within 11 = .ok (.goto 4, 3) := by decide +kernel
theorem dX8_within_14 : decode cX8_within 14 = .ok (.iconst 0, 1) := by decide +kernel
theorem dX8_within_15 : decode cX8_within 15 = .ok (.ireturn, 1) := by decide +kernel
theorem dX8_isProgram_0 : decode cX8_isProgram 0 = .ok (.iload_n 0, 1) := by decide +kernel
theorem dX8_isProgram_1 : decode cX8_isProgram 1 = .ok (.iconst 0, 1) := by decide +kernel
theorem dX8_isProgram_2 : decode cX8_isProgram 2 = .ok (.iconst 1, 1) := by decide +kernel
theorem dX8_isProgram_3 : decode cX8_isProgram 3 = .ok (.invokestatic 61, 3) := by decide +kernel
theorem dX8_isProgram_6 : decode cX8_isProgram 6 = .ok (.ireturn, 1) := by decide +kernel
theorem dX8_isInput_0 : decode cX8_isInput 0 = .ok (.iload_n 0, 1) := by decide +kernel
theorem dX8_isInput_1 : decode cX8_isInput 1 = .ok (.sipush (-999), 3) := by decide +kernel
theorem dX8_isInput_4 : decode cX8_isInput 4 = .ok (.sipush 999, 3) := by decide +kernel
theorem dX8_isInput_7 : decode cX8_isInput 7 = .ok (.invokestatic 61, 3) := by decide +kernel
theorem dX8_isInput_10 : decode cX8_isInput 10 = .ok (.ifCond .eq 20, 3) := by decide +kernel
theorem dX8_isInput_13 : decode cX8_isInput 13 = .ok (.iload_n 1, 1) := by decide +kernel
theorem dX8_isInput_14 : decode cX8_isInput 14 = .ok (.sipush (-999), 3) := by decide +kernel
theorem dX8_isInput_17 : decode cX8_isInput 17 = .ok (.sipush 999, 3) := by decide +kernel
theorem dX8_isInput_20 : decode cX8_isInput 20 = .ok (.invokestatic 61, 3) := by decide +kernel
theorem dX8_isInput_23 : decode cX8_isInput 23 = .ok (.ifCond .eq 7, 3) := by decide +kernel
theorem dX8_isInput_26 : decode cX8_isInput 26 = .ok (.iconst 1, 1) := by decide +kernel
theorem dX8_isInput_27 : decode cX8_isInput 27 = .ok (.goto 4, 3) := by decide +kernel
theorem dX8_isInput_30 : decode cX8_isInput 30 = .ok (.iconst 0, 1) := by decide +kernel
theorem dX8_isInput_31 : decode cX8_isInput 31 = .ok (.ireturn, 1) := by decide +kernel
theorem dX8_isCell_0 : decode cX8_isCell 0 = .ok (.iload_n 0, 1) := by decide +kernel
theorem dX8_isCell_1 : decode cX8_isCell 1 = .ok (.iconst 0, 1) := by decide +kernel
theorem dX8_isCell_2 : decode cX8_isCell 2 = .ok (.iconst 5, 1) := by decide +kernel
theorem dX8_isCell_3 : decode cX8_isCell 3 = .ok (.invokestatic 61, 3) := by decide +kernel
theorem dX8_isCell_6 : decode cX8_isCell 6 = .ok (.ireturn, 1) := by decide +kernel
theorem dX8_saves_0 : decode cX8_saves 0 = .ok (.aload_n 0, 1) := by decide +kernel
theorem dX8_saves_1 : decode cX8_saves 1 = .ok (.getfield 65, 3) := by decide +kernel
theorem dX8_saves_4 : decode cX8_saves 4 = .ok (.iconst 5, 1) := by decide +kernel
theorem dX8_saves_5 : decode cX8_saves 5 = .ok (.if_icmp .ne 44, 3) := by decide +kernel
theorem dX8_saves_8 : decode cX8_saves 8 = .ok (.iconst 0, 1) := by decide +kernel
theorem dX8_saves_9 : decode cX8_saves 9 = .ok (.istore_n 1, 1) := by decide +kernel
theorem dX8_saves_10 : decode cX8_saves 10 = .ok (.iload_n 1, 1) := by decide +kernel
theorem dX8_saves_11 : decode cX8_saves 11 = .ok (.sipush 3368, 3) := by decide +kernel
theorem dX8_saves_14 : decode cX8_saves 14 = .ok (.if_icmp .ge 25, 3) := by decide +kernel
theorem dX8_saves_17 : decode cX8_saves 17 = .ok (.aload_n 0, 1) := by decide +kernel
theorem dX8_saves_18 : decode cX8_saves 18 = .ok (.getfield 13, 3) := by decide +kernel
theorem dX8_saves_21 : decode cX8_saves 21 = .ok (.iload_n 1, 1) := by decide +kernel
theorem dX8_saves_22 : decode cX8_saves 22 = .ok (.aload_n 0, 1) := by decide +kernel
theorem dX8_saves_23 : decode cX8_saves 23 = .ok (.getfield 13, 3) := by decide +kernel
theorem dX8_saves_26 : decode cX8_saves 26 = .ok (.iload_n 1, 1) := by decide +kernel
theorem dX8_saves_27 : decode cX8_saves 27 = .ok (.sipush 842, 3) := by decide +kernel
theorem dX8_saves_30 : decode cX8_saves 30 = .ok (.iadd, 1) := by decide +kernel
theorem dX8_saves_31 : decode cX8_saves 31 = .ok (.iaload, 1) := by decide +kernel
theorem dX8_saves_32 : decode cX8_saves 32 = .ok (.iastore, 1) := by decide +kernel
theorem dX8_saves_33 : decode cX8_saves 33 = .ok (.iinc 1 1, 3) := by decide +kernel
theorem dX8_saves_36 : decode cX8_saves 36 = .ok (.goto (-26), 3) := by decide +kernel
theorem dX8_saves_39 : decode cX8_saves 39 = .ok (.aload_n 0, 1) := by decide +kernel
theorem dX8_saves_40 : decode cX8_saves 40 = .ok (.dup, 1) := by decide +kernel
theorem dX8_saves_41 : decode cX8_saves 41 = .ok (.getfield 65, 3) := by decide +kernel
theorem dX8_saves_44 : decode cX8_saves 44 = .ok (.iconst 1, 1) := by decide +kernel
theorem dX8_saves_45 : decode cX8_saves 45 = .ok (.isub, 1) := by decide +kernel
theorem dX8_saves_46 : decode cX8_saves 46 = .ok (.putfield 65, 3) := by decide +kernel
theorem dX8_saves_49 : decode cX8_saves 49 = .ok (.iconst 0, 1) := by decide +kernel
theorem dX8_saves_50 : decode cX8_saves 50 = .ok (.istore_n 1, 1) := by decide +kernel
theorem dX8_saves_51 : decode cX8_saves 51 = .ok (.iload_n 1, 1) := by decide +kernel
theorem dX8_saves_52 : decode cX8_saves 52 = .ok (.sipush 842, 3) := by decide +kernel
theorem dX8_saves_55 : decode cX8_saves 55 = .ok (.if_icmp .ge 30, 3) := by decide +kernel
theorem dX8_saves_58 : decode cX8_saves 58 = .ok (.aload_n 0, 1) := by decide +kernel
theorem dX8_saves_59 : decode cX8_saves 59 = .ok (.getfield 13, 3) := by decide +kernel
theorem dX8_saves_62 : decode cX8_saves 62 = .ok (.sipush 842, 3) := by decide +kernel
theorem dX8_saves_65 : decode cX8_saves 65 = .ok (.aload_n 0, 1) := by decide +kernel
theorem dX8_saves_66 : decode cX8_saves 66 = .ok (.getfield 65, 3) := by decide +kernel
theorem dX8_saves_69 : decode cX8_saves 69 = .ok (.imul, 1) := by decide +kernel
theorem dX8_saves_70 : decode cX8_saves 70 = .ok (.iload_n 1, 1) := by decide +kernel
theorem dX8_saves_71 : decode cX8_saves 71 = .ok (.iadd, 1) := by decide +kernel
theorem dX8_saves_72 : decode cX8_saves 72 = .ok (.aload_n 0, 1) := by decide +kernel
theorem dX8_saves_73 : decode cX8_saves 73 = .ok (.getfield 7, 3) := by decide +kernel
theorem dX8_saves_76 : decode cX8_saves 76 = .ok (.iload_n 1, 1) := by decide +kernel
theorem dX8_saves_77 : decode cX8_saves 77 = .ok (.iaload, 1) := by decide +kernel
theorem dX8_saves_78 : decode cX8_saves 78 = .ok (.iastore, 1) := by decide +kernel
theorem dX8_saves_79 : decode cX8_saves 79 = .ok (.iinc 1 1, 3) := by decide +kernel
theorem dX8_saves_82 : decode cX8_saves 82 = .ok (.goto (-31), 3) := by decide +kernel
theorem dX8_saves_85 : decode cX8_saves 85 = .ok (.aload_n 0, 1) := by decide +kernel
theorem dX8_saves_86 : decode cX8_saves 86 = .ok (.dup, 1) := by decide +kernel
theorem dX8_saves_87 : decode cX8_saves 87 = .ok (.getfield 65, 3) := by decide +kernel
theorem dX8_saves_90 : decode cX8_saves 90 = .ok (.iconst 1, 1) := by decide +kernel
theorem dX8_saves_91 : decode cX8_saves 91 = .ok (.iadd, 1) := by decide +kernel
theorem dX8_saves_92 : decode cX8_saves 92 = .ok (.putfield 65, 3) := by decide +kernel
theorem dX8_saves_95 : decode cX8_saves 95 = .ok (.return_, 1) := by decide +kernel
theorem dX8_undo_0 : decode cX8_undo 0 = .ok (.aload_n 0, 1) := by decide +kernel
theorem dX8_undo_1 : decode cX8_undo 1 = .ok (.getfield 65, 3) := by decide +kernel
theorem dX8_undo_4 : decode cX8_undo 4 = .ok (.ifCond .ne 7, 3) := by decide +kernel
theorem dX8_undo_7 : decode cX8_undo 7 = .ok (.sipush (-10002), 3) := by decide +kernel
theorem dX8_undo_10 : decode cX8_undo 10 = .ok (.ireturn, 1) := by decide +kernel
theorem dX8_undo_11 : decode cX8_undo 11 = .ok (.aload_n 0, 1) := by decide +kernel
theorem dX8_undo_12 : decode cX8_undo 12 = .ok (.dup, 1) := by decide +kernel
theorem dX8_undo_13 : decode cX8_undo 13 = .ok (.getfield 65, 3) := by decide +kernel
theorem dX8_undo_16 : decode cX8_undo 16 = .ok (.iconst 1, 1) := by decide +kernel
theorem dX8_undo_17 : decode cX8_undo 17 = .ok (.isub, 1) := by decide +kernel
theorem dX8_undo_18 : decode cX8_undo 18 = .ok (.putfield 65, 3) := by decide +kernel
theorem dX8_undo_21 : decode cX8_undo 21 = .ok (.iconst 0, 1) := by decide +kernel
theorem dX8_undo_22 : decode cX8_undo 22 = .ok (.istore_n 1, 1) := by decide +kernel
theorem dX8_undo_23 : decode cX8_undo 23 = .ok (.iload_n 1, 1) := by decide +kernel
theorem dX8_undo_24 : decode cX8_undo 24 = .ok (.sipush 842, 3) := by decide +kernel
theorem dX8_undo_27 : decode cX8_undo 27 = .ok (.if_icmp .ge 30, 3) := by decide +kernel
theorem dX8_undo_30 : decode cX8_undo 30 = .ok (.aload_n 0, 1) := by decide +kernel
theorem dX8_undo_31 : decode cX8_undo 31 = .ok (.getfield 7, 3) := by decide +kernel
theorem dX8_undo_34 : decode cX8_undo 34 = .ok (.iload_n 1, 1) := by decide +kernel
theorem dX8_undo_35 : decode cX8_undo 35 = .ok (.aload_n 0, 1) := by decide +kernel
theorem dX8_undo_36 : decode cX8_undo 36 = .ok (.getfield 13, 3) := by decide +kernel
theorem dX8_undo_39 : decode cX8_undo 39 = .ok (.sipush 842, 3) := by decide +kernel
theorem dX8_undo_42 : decode cX8_undo 42 = .ok (.aload_n 0, 1) := by decide +kernel
theorem dX8_undo_43 : decode cX8_undo 43 = .ok (.getfield 65, 3) := by decide +kernel
theorem dX8_undo_46 : decode cX8_undo 46 = .ok (.imul, 1) := by decide +kernel
theorem dX8_undo_47 : decode cX8_undo 47 = .ok (.iload_n 1, 1) := by decide +kernel
theorem dX8_undo_48 : decode cX8_undo 48 = .ok (.iadd, 1) := by decide +kernel
theorem dX8_undo_49 : decode cX8_undo 49 = .ok (.iaload, 1) := by decide +kernel
theorem dX8_undo_50 : decode cX8_undo 50 = .ok (.iastore, 1) := by decide +kernel
theorem dX8_undo_51 : decode cX8_undo 51 = .ok (.iinc 1 1, 3) := by decide +kernel
theorem dX8_undo_54 : decode cX8_undo 54 = .ok (.goto (-31), 3) := by decide +kernel
theorem dX8_undo_57 : decode cX8_undo 57 = .ok (.aload_n 0, 1) := by decide +kernel
theorem dX8_undo_58 : decode cX8_undo 58 = .ok (.getfield 65, 3) := by decide +kernel
theorem dX8_undo_61 : decode cX8_undo 61 = .ok (.ireturn, 1) := by decide +kernel
theorem dX8_takes_0 : decode cX8_takes 0 = .ok (.iconst 0, 1) := by decide +kernel
theorem dX8_takes_1 : decode cX8_takes 1 = .ok (.istore_n 2, 1) := by decide +kernel
theorem dX8_takes_2 : decode cX8_takes 2 = .ok (.iload_n 2, 1) := by decide +kernel
theorem dX8_takes_3 : decode cX8_takes 3 = .ok (.sipush 421, 3) := by decide +kernel
theorem dX8_takes_6 : decode cX8_takes 6 = .ok (.if_icmp .ge 27, 3) := by decide +kernel
theorem dX8_takes_9 : decode cX8_takes 9 = .ok (.aload_n 0, 1) := by decide +kernel
theorem dX8_takes_10 : decode cX8_takes 10 = .ok (.getfield 19, 3) := by decide +kernel
theorem dX8_takes_13 : decode cX8_takes 13 = .ok (.iload_n 2, 1) := by decide +kernel
theorem dX8_takes_14 : decode cX8_takes 14 = .ok (.aload_n 0, 1) := by decide +kernel
theorem dX8_takes_15 : decode cX8_takes 15 = .ok (.getfield 7, 3) := by decide +kernel
theorem dX8_takes_18 : decode cX8_takes 18 = .ok (.sipush 421, 3) := by decide +kernel
theorem dX8_takes_21 : decode cX8_takes 21 = .ok (.iload_n 1, 1) := by decide +kernel
theorem dX8_takes_22 : decode cX8_takes 22 = .ok (.imul, 1) := by decide +kernel
theorem dX8_takes_23 : decode cX8_takes 23 = .ok (.iload_n 2, 1) := by decide +kernel
theorem dX8_takes_24 : decode cX8_takes 24 = .ok (.iadd, 1) := by decide +kernel
theorem dX8_takes_25 : decode cX8_takes 25 = .ok (.iaload, 1) := by decide +kernel
theorem dX8_takes_26 : decode cX8_takes 26 = .ok (.iastore, 1) := by decide +kernel
theorem dX8_takes_27 : decode cX8_takes 27 = .ok (.iinc 2 1, 3) := by decide +kernel
theorem dX8_takes_30 : decode cX8_takes 30 = .ok (.goto (-28), 3) := by decide +kernel
theorem dX8_takes_33 : decode cX8_takes 33 = .ok (.return_, 1) := by decide +kernel
theorem dX8_lays_0 : decode cX8_lays 0 = .ok (.iconst 0, 1) := by decide +kernel
theorem dX8_lays_1 : decode cX8_lays 1 = .ok (.istore_n 2, 1) := by decide +kernel
theorem dX8_lays_2 : decode cX8_lays 2 = .ok (.iload_n 2, 1) := by decide +kernel
theorem dX8_lays_3 : decode cX8_lays 3 = .ok (.sipush 421, 3) := by decide +kernel
theorem dX8_lays_6 : decode cX8_lays 6 = .ok (.if_icmp .ge 27, 3) := by decide +kernel
theorem dX8_lays_9 : decode cX8_lays 9 = .ok (.aload_n 0, 1) := by decide +kernel
theorem dX8_lays_10 : decode cX8_lays 10 = .ok (.getfield 7, 3) := by decide +kernel
theorem dX8_lays_13 : decode cX8_lays 13 = .ok (.sipush 421, 3) := by decide +kernel
theorem dX8_lays_16 : decode cX8_lays 16 = .ok (.iload_n 1, 1) := by decide +kernel
theorem dX8_lays_17 : decode cX8_lays 17 = .ok (.imul, 1) := by decide +kernel
theorem dX8_lays_18 : decode cX8_lays 18 = .ok (.iload_n 2, 1) := by decide +kernel
theorem dX8_lays_19 : decode cX8_lays 19 = .ok (.iadd, 1) := by decide +kernel
theorem dX8_lays_20 : decode cX8_lays 20 = .ok (.aload_n 0, 1) := by decide +kernel
theorem dX8_lays_21 : decode cX8_lays 21 = .ok (.getfield 19, 3) := by decide +kernel
theorem dX8_lays_24 : decode cX8_lays 24 = .ok (.iload_n 2, 1) := by decide +kernel
theorem dX8_lays_25 : decode cX8_lays 25 = .ok (.iaload, 1) := by decide +kernel
theorem dX8_lays_26 : decode cX8_lays 26 = .ok (.iastore, 1) := by decide +kernel
theorem dX8_lays_27 : decode cX8_lays 27 = .ok (.iinc 2 1, 3) := by decide +kernel
theorem dX8_lays_30 : decode cX8_lays 30 = .ok (.goto (-28), 3) := by decide +kernel
theorem dX8_lays_33 : decode cX8_lays 33 = .ok (.return_, 1) := by decide +kernel
theorem dX8_of_0 : decode cX8_of 0 = .ok (.aload_n 0, 1) := by decide +kernel
theorem dX8_of_1 : decode cX8_of 1 = .ok (.getfield 19, 3) := by decide +kernel
theorem dX8_of_4 : decode cX8_of 4 = .ok (.iconst 1, 1) := by decide +kernel
theorem dX8_of_5 : decode cX8_of 5 = .ok (.bipush 7, 2) := by decide +kernel
theorem dX8_of_7 : decode cX8_of 7 = .ok (.iload_n 1, 1) := by decide +kernel
theorem dX8_of_8 : decode cX8_of 8 = .ok (.imul, 1) := by decide +kernel
theorem dX8_of_9 : decode cX8_of 9 = .ok (.iadd, 1) := by decide +kernel
theorem dX8_of_10 : decode cX8_of 10 = .ok (.iload_n 2, 1) := by decide +kernel
theorem dX8_of_11 : decode cX8_of 11 = .ok (.iadd, 1) := by decide +kernel
theorem dX8_of_12 : decode cX8_of 12 = .ok (.iaload, 1) := by decide +kernel
theorem dX8_of_13 : decode cX8_of 13 = .ok (.ireturn, 1) := by decide +kernel
theorem dX8_put_0 : decode cX8_put 0 = .ok (.aload_n 0, 1) := by decide +kernel
theorem dX8_put_1 : decode cX8_put 1 = .ok (.getfield 19, 3) := by decide +kernel
theorem dX8_put_4 : decode cX8_put 4 = .ok (.iconst 1, 1) := by decide +kernel
theorem dX8_put_5 : decode cX8_put 5 = .ok (.bipush 7, 2) := by decide +kernel
theorem dX8_put_7 : decode cX8_put 7 = .ok (.iload_n 1, 1) := by decide +kernel
theorem dX8_put_8 : decode cX8_put 8 = .ok (.imul, 1) := by decide +kernel
theorem dX8_put_9 : decode cX8_put 9 = .ok (.iadd, 1) := by decide +kernel
theorem dX8_put_10 : decode cX8_put 10 = .ok (.iload_n 2, 1) := by decide +kernel
theorem dX8_put_11 : decode cX8_put 11 = .ok (.iadd, 1) := by decide +kernel
theorem dX8_put_12 : decode cX8_put 12 = .ok (.iload_n 3, 1) := by decide +kernel
theorem dX8_put_13 : decode cX8_put 13 = .ok (.iastore, 1) := by decide +kernel
theorem dX8_put_14 : decode cX8_put 14 = .ok (.return_, 1) := by decide +kernel
theorem dX8_append_0 : decode cX8_append 0 = .ok (.iload_n 1, 1) := by decide +kernel
theorem dX8_append_1 : decode cX8_append 1 = .ok (.iconst 1, 1) := by decide +kernel
theorem dX8_append_2 : decode cX8_append 2 = .ok (.sipush 255, 3) := by decide +kernel
theorem dX8_append_5 : decode cX8_append 5 = .ok (.invokestatic 61, 3) := by decide +kernel
theorem dX8_append_8 : decode cX8_append 8 = .ok (.ifCond .ne 7, 3) := by decide +kernel
theorem dX8_append_11 : decode cX8_append 11 = .ok (.sipush (-10001), 3) := by decide +kernel
theorem dX8_append_14 : decode cX8_append 14 = .ok (.ireturn, 1) := by decide +kernel
theorem dX8_append_15 : decode cX8_append 15 = .ok (.aload_n 0, 1) := by decide +kernel
theorem dX8_append_16 : decode cX8_append 16 = .ok (.getfield 69, 3) := by decide +kernel
theorem dX8_append_19 : decode cX8_append 19 = .ok (.bipush 120, 2) := by decide +kernel
theorem dX8_append_21 : decode cX8_append 21 = .ok (.if_icmp .ne 7, 3) := by decide +kernel
theorem dX8_append_24 : decode cX8_append 24 = .ok (.sipush (-10003), 3) := by decide +kernel
theorem dX8_append_27 : decode cX8_append 27 = .ok (.ireturn, 1) := by decide +kernel
theorem dX8_append_28 : decode cX8_append 28 = .ok (.aload_n 0, 1) := by decide +kernel
theorem dX8_append_29 : decode cX8_append 29 = .ok (.getfield 16, 3) := by decide +kernel
theorem dX8_append_32 : decode cX8_append 32 = .ok (.aload_n 0, 1) := by decide +kernel
theorem dX8_append_33 : decode cX8_append 33 = .ok (.getfield 69, 3) := by decide +kernel
theorem dX8_append_36 : decode cX8_append 36 = .ok (.iload_n 1, 1) := by decide +kernel
theorem dX8_append_37 : decode cX8_append 37 = .ok (.iastore, 1) := by decide +kernel
theorem dX8_append_38 : decode cX8_append 38 = .ok (.aload_n 0, 1) := by decide +kernel
theorem dX8_append_39 : decode cX8_append 39 = .ok (.dup, 1) := by decide +kernel
theorem dX8_append_40 : decode cX8_append 40 = .ok (.getfield 69, 3) := by decide +kernel
theorem dX8_append_43 : decode cX8_append 43 = .ok (.iconst 1, 1) := by decide +kernel
theorem dX8_append_44 : decode cX8_append 44 = .ok (.iadd, 1) := by decide +kernel
theorem dX8_append_45 : decode cX8_append 45 = .ok (.putfield 69, 3) := by decide +kernel
theorem dX8_append_48 : decode cX8_append 48 = .ok (.aload_n 0, 1) := by decide +kernel
theorem dX8_append_49 : decode cX8_append 49 = .ok (.getfield 69, 3) := by decide +kernel
theorem dX8_append_52 : decode cX8_append 52 = .ok (.ireturn, 1) := by decide +kernel
theorem dX8_clearText_0 : decode cX8_clearText 0 = .ok (.aload_n 0, 1) := by decide +kernel
theorem dX8_clearText_1 : decode cX8_clearText 1 = .ok (.getfield 69, 3) := by decide +kernel
theorem dX8_clearText_4 : decode cX8_clearText 4 = .ok (.istore_n 1, 1) := by decide +kernel
theorem dX8_clearText_5 : decode cX8_clearText 5 = .ok (.aload_n 0, 1) := by decide +kernel
theorem dX8_clearText_6 : decode cX8_clearText 6 = .ok (.iconst 0, 1) := by decide +kernel
theorem dX8_clearText_7 : decode cX8_clearText 7 = .ok (.putfield 69, 3) := by decide +kernel
theorem dX8_clearText_10 : decode cX8_clearText 10 = .ok (.iload_n 1, 1) := by decide +kernel
theorem dX8_clearText_11 : decode cX8_clearText 11 = .ok (.ireturn, 1) := by decide +kernel
theorem dX8_here_0 : decode cX8_here 0 = .ok (.aload_n 0, 1) := by decide +kernel
theorem dX8_here_1 : decode cX8_here 1 = .ok (.getfield 72, 3) := by decide +kernel
theorem dX8_here_4 : decode cX8_here 4 = .ok (.aload_n 0, 1) := by decide +kernel
theorem dX8_here_5 : decode cX8_here 5 = .ok (.getfield 69, 3) := by decide +kernel
theorem dX8_here_8 : decode cX8_here 8 = .ok (.if_icmp .ge 30, 3) := by decide +kernel
theorem dX8_here_11 : decode cX8_here 11 = .ok (.aload_n 0, 1) := by decide +kernel
theorem dX8_here_12 : decode cX8_here 12 = .ok (.getfield 16, 3) := by decide +kernel
theorem dX8_here_15 : decode cX8_here 15 = .ok (.aload_n 0, 1) := by decide +kernel
theorem dX8_here_16 : decode cX8_here 16 = .ok (.getfield 72, 3) := by decide +kernel
theorem dX8_here_19 : decode cX8_here 19 = .ok (.iaload, 1) := by decide +kernel
theorem dX8_here_20 : decode cX8_here 20 = .ok (.bipush 32, 2) := by decide +kernel
end
section
theorem dX8_here_22 : decode cX8_here 22 = .ok (.if_icmp .ne 16, 3) := by decide +kernel
theorem dX8_here_25 : decode cX8_here 25 = .ok (.aload_n 0, 1) := by decide +kernel
theorem dX8_here_26 : decode cX8_here 26 = .ok (.dup, 1) := by decide +kernel
theorem dX8_here_27 : decode cX8_here 27 = .ok (.getfield 72, 3) := by decide +kernel
theorem dX8_here_30 : decode cX8_here 30 = .ok (.iconst 1, 1) := by decide +kernel
theorem dX8_here_31 : decode cX8_here 31 = .ok (.iadd, 1) := by decide +kernel
theorem dX8_here_32 : decode cX8_here 32 = .ok (.putfield 72, 3) := by decide +kernel
theorem dX8_here_35 : decode cX8_here 35 = .ok (.goto (-35), 3) := by decide +kernel
theorem dX8_here_38 : decode cX8_here 38 = .ok (.aload_n 0, 1) := by decide +kernel
theorem dX8_here_39 : decode cX8_here 39 = .ok (.getfield 72, 3) := by decide +kernel
theorem dX8_here_42 : decode cX8_here 42 = .ok (.aload_n 0, 1) := by decide +kernel
theorem dX8_here_43 : decode cX8_here 43 = .ok (.getfield 69, 3) := by decide +kernel
theorem dX8_here_46 : decode cX8_here 46 = .ok (.if_icmp .ge 15, 3) := by decide +kernel
theorem dX8_here_49 : decode cX8_here 49 = .ok (.aload_n 0, 1) := by decide +kernel
theorem dX8_here_50 : decode cX8_here 50 = .ok (.getfield 16, 3) := by decide +kernel
theorem dX8_here_53 : decode cX8_here 53 = .ok (.aload_n 0, 1) := by decide +kernel
theorem dX8_here_54 : decode cX8_here 54 = .ok (.getfield 72, 3) := by decide +kernel
theorem dX8_here_57 : decode cX8_here 57 = .ok (.iaload, 1) := by decide +kernel
theorem dX8_here_58 : decode cX8_here 58 = .ok (.goto 4, 3) := by decide +kernel
theorem dX8_here_61 : decode cX8_here 61 = .ok (.iconst 0, 1) := by decide +kernel
theorem dX8_here_62 : decode cX8_here 62 = .ok (.ireturn, 1) := by decide +kernel
theorem dX8_passes_0 : decode cX8_passes 0 = .ok (.aload_n 0, 1) := by decide +kernel
theorem dX8_passes_1 : decode cX8_passes 1 = .ok (.invokevirtual 75, 3) := by decide +kernel
theorem dX8_passes_4 : decode cX8_passes 4 = .ok (.iload_n 1, 1) := by decide +kernel
theorem dX8_passes_5 : decode cX8_passes 5 = .ok (.if_icmp .ne 7, 3) := by decide +kernel
theorem dX8_passes_8 : decode cX8_passes 8 = .ok (.iconst 1, 1) := by decide +kernel
theorem dX8_passes_9 : decode cX8_passes 9 = .ok (.goto 4, 3) := by decide +kernel
theorem dX8_passes_12 : decode cX8_passes 12 = .ok (.iconst 0, 1) := by decide +kernel
theorem dX8_passes_13 : decode cX8_passes 13 = .ok (.istore_n 2, 1) := by decide +kernel
theorem dX8_passes_14 : decode cX8_passes 14 = .ok (.aload_n 0, 1) := by decide +kernel
theorem dX8_passes_15 : decode cX8_passes 15 = .ok (.dup, 1) := by decide +kernel
theorem dX8_passes_16 : decode cX8_passes 16 = .ok (.getfield 72, 3) := by decide +kernel
theorem dX8_passes_19 : decode cX8_passes 19 = .ok (.iload_n 2, 1) := by decide +kernel
theorem dX8_passes_20 : decode cX8_passes 20 = .ok (.ifCond .eq 7, 3) := by decide +kernel
theorem dX8_passes_23 : decode cX8_passes 23 = .ok (.iconst 1, 1) := by decide +kernel
theorem dX8_passes_24 : decode cX8_passes 24 = .ok (.goto 4, 3) := by decide +kernel
theorem dX8_passes_27 : decode cX8_passes 27 = .ok (.iconst 0, 1) := by decide +kernel
theorem dX8_passes_28 : decode cX8_passes 28 = .ok (.iadd, 1) := by decide +kernel
theorem dX8_passes_29 : decode cX8_passes 29 = .ok (.putfield 72, 3) := by decide +kernel
theorem dX8_passes_32 : decode cX8_passes 32 = .ok (.iload_n 2, 1) := by decide +kernel
theorem dX8_passes_33 : decode cX8_passes 33 = .ok (.ireturn, 1) := by decide +kernel
theorem dX8_isLetter_0 : decode cX8_isLetter 0 = .ok (.iload_n 0, 1) := by decide +kernel
theorem dX8_isLetter_1 : decode cX8_isLetter 1 = .ok (.bipush 97, 2) := by decide +kernel
theorem dX8_isLetter_3 : decode cX8_isLetter 3 = .ok (.bipush 102, 2) := by decide +kernel
theorem dX8_isLetter_5 : decode cX8_isLetter 5 = .ok (.invokestatic 61, 3) := by decide +kernel
theorem dX8_isLetter_8 : decode cX8_isLetter 8 = .ok (.ireturn, 1) := by decide +kernel
theorem dX8_readsCell_0 : decode cX8_readsCell 0 = .ok (.aload_n 0, 1) := by decide +kernel
theorem dX8_readsCell_1 : decode cX8_readsCell 1 = .ok (.invokevirtual 75, 3) := by decide +kernel
theorem dX8_readsCell_4 : decode cX8_readsCell 4 = .ok (.invokestatic 79, 3) := by decide +kernel
theorem dX8_readsCell_7 : decode cX8_readsCell 7 = .ok (.istore_n 2, 1) := by decide +kernel
theorem dX8_readsCell_8 : decode cX8_readsCell 8 = .ok (.iload_n 2, 1) := by decide +kernel
theorem dX8_readsCell_9 : decode cX8_readsCell 9 = .ok (.ifCond .eq 31, 3) := by decide +kernel
theorem dX8_readsCell_12 : decode cX8_readsCell 12 = .ok (.aload_n 0, 1) := by decide +kernel
theorem dX8_readsCell_13 : decode cX8_readsCell 13 = .ok (.iload_n 1, 1) := by decide +kernel
theorem dX8_readsCell_14 : decode cX8_readsCell 14 = .ok (.iconst 1, 1) := by decide +kernel
theorem dX8_readsCell_15 : decode cX8_readsCell 15 = .ok (.aload_n 0, 1) := by decide +kernel
theorem dX8_readsCell_16 : decode cX8_readsCell 16 = .ok (.getfield 16, 3) := by decide +kernel
theorem dX8_readsCell_19 : decode cX8_readsCell 19 = .ok (.aload_n 0, 1) := by decide +kernel
theorem dX8_readsCell_20 : decode cX8_readsCell 20 = .ok (.getfield 72, 3) := by decide +kernel
theorem dX8_readsCell_23 : decode cX8_readsCell 23 = .ok (.iaload, 1) := by decide +kernel
theorem dX8_readsCell_24 : decode cX8_readsCell 24 = .ok (.bipush 97, 2) := by decide +kernel
theorem dX8_readsCell_26 : decode cX8_readsCell 26 = .ok (.isub, 1) := by decide +kernel
theorem dX8_readsCell_27 : decode cX8_readsCell 27 = .ok (.invokevirtual 83, 3) := by decide +kernel
theorem dX8_readsCell_30 : decode cX8_readsCell 30 = .ok (.aload_n 0, 1) := by decide +kernel
theorem dX8_readsCell_31 : decode cX8_readsCell 31 = .ok (.dup, 1) := by decide +kernel
theorem dX8_readsCell_32 : decode cX8_readsCell 32 = .ok (.getfield 72, 3) := by decide +kernel
theorem dX8_readsCell_35 : decode cX8_readsCell 35 = .ok (.iconst 1, 1) := by decide +kernel
theorem dX8_readsCell_36 : decode cX8_readsCell 36 = .ok (.iadd, 1) := by decide +kernel
theorem dX8_readsCell_37 : decode cX8_readsCell 37 = .ok (.putfield 72, 3) := by decide +kernel
theorem dX8_readsCell_40 : decode cX8_readsCell 40 = .ok (.iload_n 2, 1) := by decide +kernel
theorem dX8_readsCell_41 : decode cX8_readsCell 41 = .ok (.ireturn, 1) := by decide +kernel
theorem dX8_readsTerm_0 : decode cX8_readsTerm 0 = .ok (.aload_n 0, 1) := by decide +kernel
theorem dX8_readsTerm_1 : decode cX8_readsTerm 1 = .ok (.invokevirtual 75, 3) := by decide +kernel
theorem dX8_readsTerm_4 : decode cX8_readsTerm 4 = .ok (.istore_n 3, 1) := by decide +kernel
theorem dX8_readsTerm_5 : decode cX8_readsTerm 5 = .ok (.iload_n 3, 1) := by decide +kernel
theorem dX8_readsTerm_6 : decode cX8_readsTerm 6 = .ok (.invokestatic 79, 3) := by decide +kernel
theorem dX8_readsTerm_9 : decode cX8_readsTerm 9 = .ok (.ifCond .eq 25, 3) := by decide +kernel
theorem dX8_readsTerm_12 : decode cX8_readsTerm 12 = .ok (.aload_n 0, 1) := by decide +kernel
theorem dX8_readsTerm_13 : decode cX8_readsTerm 13 = .ok (.iload_n 1, 1) := by decide +kernel
theorem dX8_readsTerm_14 : decode cX8_readsTerm 14 = .ok (.iload_n 2, 1) := by decide +kernel
theorem dX8_readsTerm_15 : decode cX8_readsTerm 15 = .ok (.iload_n 3, 1) := by decide +kernel
theorem dX8_readsTerm_16 : decode cX8_readsTerm 16 = .ok (.bipush 97, 2) := by decide +kernel
theorem dX8_readsTerm_18 : decode cX8_readsTerm 18 = .ok (.isub, 1) := by decide +kernel
theorem dX8_readsTerm_19 : decode cX8_readsTerm 19 = .ok (.invokevirtual 83, 3) := by decide +kernel
theorem dX8_readsTerm_22 : decode cX8_readsTerm 22 = .ok (.aload_n 0, 1) := by decide +kernel
theorem dX8_readsTerm_23 : decode cX8_readsTerm 23 = .ok (.dup, 1) := by decide +kernel
theorem dX8_readsTerm_24 : decode cX8_readsTerm 24 = .ok (.getfield 72, 3) := by decide +kernel
theorem dX8_readsTerm_27 : decode cX8_readsTerm 27 = .ok (.iconst 1, 1) := by decide +kernel
theorem dX8_readsTerm_28 : decode cX8_readsTerm 28 = .ok (.iadd, 1) := by decide +kernel
theorem dX8_readsTerm_29 : decode cX8_readsTerm 29 = .ok (.putfield 72, 3) := by decide +kernel
theorem dX8_readsTerm_32 : decode cX8_readsTerm 32 = .ok (.iconst 1, 1) := by decide +kernel
theorem dX8_readsTerm_33 : decode cX8_readsTerm 33 = .ok (.ireturn, 1) := by decide +kernel
theorem dX8_readsTerm_34 : decode cX8_readsTerm 34 = .ok (.iload_n 3, 1) := by decide +kernel
theorem dX8_readsTerm_35 : decode cX8_readsTerm 35 = .ok (.bipush 48, 2) := by decide +kernel
theorem dX8_readsTerm_37 : decode cX8_readsTerm 37 = .ok (.bipush 57, 2) := by decide +kernel
theorem dX8_readsTerm_39 : decode cX8_readsTerm 39 = .ok (.invokestatic 61, 3) := by decide +kernel
theorem dX8_readsTerm_42 : decode cX8_readsTerm 42 = .ok (.ifCond .ne 5, 3) := by decide +kernel
theorem dX8_readsTerm_45 : decode cX8_readsTerm 45 = .ok (.iconst 0, 1) := by decide +kernel
theorem dX8_readsTerm_46 : decode cX8_readsTerm 46 = .ok (.ireturn, 1) := by decide +kernel
theorem dX8_readsTerm_47 : decode cX8_readsTerm 47 = .ok (.iconst 0, 1) := by decide +kernel
theorem dX8_readsTerm_48 : decode cX8_readsTerm 48 = .ok (.istore 4, 2) := by decide +kernel
theorem dX8_readsTerm_50 : decode cX8_readsTerm 50 = .ok (.iload_n 3, 1) := by decide +kernel
theorem dX8_readsTerm_51 : decode cX8_readsTerm 51 = .ok (.bipush 48, 2) := by decide +kernel
theorem dX8_readsTerm_53 : decode cX8_readsTerm 53 = .ok (.if_icmp .ne 7, 3) := by decide +kernel
theorem dX8_readsTerm_56 : decode cX8_readsTerm 56 = .ok (.iconst 1, 1) := by decide +kernel
theorem dX8_readsTerm_57 : decode cX8_readsTerm 57 = .ok (.goto 4, 3) := by decide +kernel
theorem dX8_readsTerm_60 : decode cX8_readsTerm 60 = .ok (.iconst 3, 1) := by decide +kernel
theorem dX8_readsTerm_61 : decode cX8_readsTerm 61 = .ok (.istore 5, 2) := by decide +kernel
theorem dX8_readsTerm_63 : decode cX8_readsTerm 63 = .ok (.aload_n 0, 1) := by decide +kernel
theorem dX8_readsTerm_64 : decode cX8_readsTerm 64 = .ok (.getfield 72, 3) := by decide +kernel
theorem dX8_readsTerm_67 : decode cX8_readsTerm 67 = .ok (.istore 6, 2) := by decide +kernel
theorem dX8_readsTerm_69 : decode cX8_readsTerm 69 = .ok (.aload_n 0, 1) := by decide +kernel
theorem dX8_readsTerm_70 : decode cX8_readsTerm 70 = .ok (.getfield 72, 3) := by decide +kernel
theorem dX8_readsTerm_73 : decode cX8_readsTerm 73 = .ok (.aload_n 0, 1) := by decide +kernel
theorem dX8_readsTerm_74 : decode cX8_readsTerm 74 = .ok (.getfield 69, 3) := by decide +kernel
theorem dX8_readsTerm_77 : decode cX8_readsTerm 77 = .ok (.if_icmp .ge 67, 3) := by decide +kernel
theorem dX8_readsTerm_80 : decode cX8_readsTerm 80 = .ok (.aload_n 0, 1) := by decide +kernel
theorem dX8_readsTerm_81 : decode cX8_readsTerm 81 = .ok (.getfield 72, 3) := by decide +kernel
theorem dX8_readsTerm_84 : decode cX8_readsTerm 84 = .ok (.iload 6, 2) := by decide +kernel
theorem dX8_readsTerm_86 : decode cX8_readsTerm 86 = .ok (.isub, 1) := by decide +kernel
theorem dX8_readsTerm_87 : decode cX8_readsTerm 87 = .ok (.iload 5, 2) := by decide +kernel
theorem dX8_readsTerm_89 : decode cX8_readsTerm 89 = .ok (.if_icmp .ge 55, 3) := by decide +kernel
theorem dX8_readsTerm_92 : decode cX8_readsTerm 92 = .ok (.aload_n 0, 1) := by decide +kernel
theorem dX8_readsTerm_93 : decode cX8_readsTerm 93 = .ok (.getfield 16, 3) := by decide +kernel
theorem dX8_readsTerm_96 : decode cX8_readsTerm 96 = .ok (.aload_n 0, 1) := by decide +kernel
theorem dX8_readsTerm_97 : decode cX8_readsTerm 97 = .ok (.getfield 72, 3) := by decide +kernel
theorem dX8_readsTerm_100 : decode cX8_readsTerm 100 = .ok (.iaload, 1) := by decide +kernel
theorem dX8_readsTerm_101 : decode cX8_readsTerm 101 = .ok (.bipush 48, 2) := by decide +kernel
theorem dX8_readsTerm_103 : decode cX8_readsTerm 103 = .ok (.bipush 57, 2) := by decide +kernel
theorem dX8_readsTerm_105 : decode cX8_readsTerm 105 = .ok (.invokestatic 61, 3) := by decide +kernel
theorem dX8_readsTerm_108 : decode cX8_readsTerm 108 = .ok (.ifCond .eq 36, 3) := by decide +kernel
theorem dX8_readsTerm_111 : decode cX8_readsTerm 111 = .ok (.bipush 10, 2) := by decide +kernel
theorem dX8_readsTerm_113 : decode cX8_readsTerm 113 = .ok (.iload 4, 2) := by decide +kernel
theorem dX8_readsTerm_115 : decode cX8_readsTerm 115 = .ok (.imul, 1) := by decide +kernel
theorem dX8_readsTerm_116 : decode cX8_readsTerm 116 = .ok (.aload_n 0, 1) := by decide +kernel
theorem dX8_readsTerm_117 : decode cX8_readsTerm 117 = .ok (.getfield 16, 3) := by decide +kernel
theorem dX8_readsTerm_120 : decode cX8_readsTerm 120 = .ok (.aload_n 0, 1) := by decide +kernel
theorem dX8_readsTerm_121 : decode cX8_readsTerm 121 = .ok (.getfield 72, 3) := by decide +kernel
theorem dX8_readsTerm_124 : decode cX8_readsTerm 124 = .ok (.iaload, 1) := by decide +kernel
theorem dX8_readsTerm_125 : decode cX8_readsTerm 125 = .ok (.iadd, 1) := by decide +kernel
theorem dX8_readsTerm_126 : decode cX8_readsTerm 126 = .ok (.bipush 48, 2) := by decide +kernel
theorem dX8_readsTerm_128 : decode cX8_readsTerm 128 = .ok (.isub, 1) := by decide +kernel
theorem dX8_readsTerm_129 : decode cX8_readsTerm 129 = .ok (.istore 4, 2) := by decide +kernel
theorem dX8_readsTerm_131 : decode cX8_readsTerm 131 = .ok (.aload_n 0, 1) := by decide +kernel
theorem dX8_readsTerm_132 : decode cX8_readsTerm 132 = .ok (.dup, 1) := by decide +kernel
theorem dX8_readsTerm_133 : decode cX8_readsTerm 133 = .ok (.getfield 72, 3) := by decide +kernel
theorem dX8_readsTerm_136 : decode cX8_readsTerm 136 = .ok (.iconst 1, 1) := by decide +kernel
theorem dX8_readsTerm_137 : decode cX8_readsTerm 137 = .ok (.iadd, 1) := by decide +kernel
theorem dX8_readsTerm_138 : decode cX8_readsTerm 138 = .ok (.putfield 72, 3) := by decide +kernel
theorem dX8_readsTerm_141 : decode cX8_readsTerm 141 = .ok (.goto (-72), 3) := by decide +kernel
theorem dX8_readsTerm_144 : decode cX8_readsTerm 144 = .ok (.aload_n 0, 1) := by decide +kernel
theorem dX8_readsTerm_145 : decode cX8_readsTerm 145 = .ok (.iload_n 1, 1) := by decide +kernel
theorem dX8_readsTerm_146 : decode cX8_readsTerm 146 = .ok (.iload_n 2, 1) := by decide +kernel
theorem dX8_readsTerm_147 : decode cX8_readsTerm 147 = .ok (.bipush 10, 2) := by decide +kernel
theorem dX8_readsTerm_149 : decode cX8_readsTerm 149 = .ok (.iload 4, 2) := by decide +kernel
theorem dX8_readsTerm_151 : decode cX8_readsTerm 151 = .ok (.iadd, 1) := by decide +kernel
theorem dX8_readsTerm_152 : decode cX8_readsTerm 152 = .ok (.invokevirtual 83, 3) := by decide +kernel
theorem dX8_readsTerm_155 : decode cX8_readsTerm 155 = .ok (.iconst 1, 1) := by decide +kernel
theorem dX8_readsTerm_156 : decode cX8_readsTerm 156 = .ok (.ireturn, 1) := by decide +kernel
theorem dX8_readsSetting_0 : decode cX8_readsSetting 0 = .ok (.aload_n 0, 1) := by decide +kernel
theorem dX8_readsSetting_1 : decode cX8_readsSetting 1 = .ok (.iload_n 1, 1) := by decide +kernel
theorem dX8_readsSetting_2 : decode cX8_readsSetting 2 = .ok (.invokevirtual 87, 3) := by decide +kernel
theorem dX8_readsSetting_5 : decode cX8_readsSetting 5 = .ok (.ifCond .eq 21, 3) := by decide +kernel
theorem dX8_readsSetting_8 : decode cX8_readsSetting 8 = .ok (.aload_n 0, 1) := by decide +kernel
theorem dX8_readsSetting_9 : decode cX8_readsSetting 9 = .ok (.bipush 61, 2) := by decide +kernel
theorem dX8_readsSetting_11 : decode cX8_readsSetting 11 = .ok (.invokevirtual 90, 3) := by decide +kernel
theorem dX8_readsSetting_14 : decode cX8_readsSetting 14 = .ok (.ifCond .eq 12, 3) := by decide +kernel
theorem dX8_readsSetting_17 : decode cX8_readsSetting 17 = .ok (.aload_n 0, 1) := by decide +kernel
theorem dX8_readsSetting_18 : decode cX8_readsSetting 18 = .ok (.iload_n 1, 1) := by decide +kernel
theorem dX8_readsSetting_19 : decode cX8_readsSetting 19 = .ok (.iconst 3, 1) := by decide +kernel
theorem dX8_readsSetting_20 : decode cX8_readsSetting 20 = .ok (.invokevirtual 93, 3) := by decide +kernel
theorem dX8_readsSetting_23 : decode cX8_readsSetting 23 = .ok (.ifCond .ne 5, 3) := by decide +kernel
theorem dX8_readsSetting_26 : decode cX8_readsSetting 26 = .ok (.iconst 0, 1) := by decide +kernel
theorem dX8_readsSetting_27 : decode cX8_readsSetting 27 = .ok (.ireturn, 1) := by decide +kernel
theorem dX8_readsSetting_28 : decode cX8_readsSetting 28 = .ok (.aload_n 0, 1) := by decide +kernel
theorem dX8_readsSetting_29 : decode cX8_readsSetting 29 = .ok (.invokevirtual 75, 3) := by decide +kernel
theorem dX8_readsSetting_32 : decode cX8_readsSetting 32 = .ok (.istore_n 2, 1) := by decide +kernel
theorem dX8_readsSetting_33 : decode cX8_readsSetting 33 = .ok (.iload_n 2, 1) := by decide +kernel
theorem dX8_readsSetting_34 : decode cX8_readsSetting 34 = .ok (.bipush 43, 2) := by decide +kernel
theorem dX8_readsSetting_36 : decode cX8_readsSetting 36 = .ok (.if_icmp .eq 15, 3) := by decide +kernel
theorem dX8_readsSetting_39 : decode cX8_readsSetting 39 = .ok (.iload_n 2, 1) := by decide +kernel
theorem dX8_readsSetting_40 : decode cX8_readsSetting 40 = .ok (.bipush 45, 2) := by decide +kernel
theorem dX8_readsSetting_42 : decode cX8_readsSetting 42 = .ok (.if_icmp .eq 9, 3) := by decide +kernel
theorem dX8_readsSetting_45 : decode cX8_readsSetting 45 = .ok (.iload_n 2, 1) := by decide +kernel
theorem dX8_readsSetting_46 : decode cX8_readsSetting 46 = .ok (.bipush 42, 2) := by decide +kernel
theorem dX8_readsSetting_48 : decode cX8_readsSetting 48 = .ok (.if_icmp .ne 31, 3) := by decide +kernel
theorem dX8_readsSetting_51 : decode cX8_readsSetting 51 = .ok (.aload_n 0, 1) := by decide +kernel
theorem dX8_readsSetting_52 : decode cX8_readsSetting 52 = .ok (.dup, 1) := by decide +kernel
theorem dX8_readsSetting_53 : decode cX8_readsSetting 53 = .ok (.getfield 72, 3) := by decide +kernel
theorem dX8_readsSetting_56 : decode cX8_readsSetting 56 = .ok (.iconst 1, 1) := by decide +kernel
theorem dX8_readsSetting_57 : decode cX8_readsSetting 57 = .ok (.iadd, 1) := by decide +kernel
theorem dX8_readsSetting_58 : decode cX8_readsSetting 58 = .ok (.putfield 72, 3) := by decide +kernel
theorem dX8_readsSetting_61 : decode cX8_readsSetting 61 = .ok (.aload_n 0, 1) := by decide +kernel
theorem dX8_readsSetting_62 : decode cX8_readsSetting 62 = .ok (.iload_n 1, 1) := by decide +kernel
theorem dX8_readsSetting_63 : decode cX8_readsSetting 63 = .ok (.iconst 2, 1) := by decide +kernel
theorem dX8_readsSetting_64 : decode cX8_readsSetting 64 = .ok (.iload_n 2, 1) := by decide +kernel
theorem dX8_readsSetting_65 : decode cX8_readsSetting 65 = .ok (.invokevirtual 83, 3) := by decide +kernel
theorem dX8_readsSetting_68 : decode cX8_readsSetting 68 = .ok (.aload_n 0, 1) := by decide +kernel
theorem dX8_readsSetting_69 : decode cX8_readsSetting 69 = .ok (.iload_n 1, 1) := by decide +kernel
theorem dX8_readsSetting_70 : decode cX8_readsSetting 70 = .ok (.iconst 4, 1) := by decide +kernel
theorem dX8_readsSetting_71 : decode cX8_readsSetting 71 = .ok (.invokevirtual 93, 3) := by decide +kernel
theorem dX8_readsSetting_74 : decode cX8_readsSetting 74 = .ok (.ifCond .ne 5, 3) := by decide +kernel
theorem dX8_readsSetting_77 : decode cX8_readsSetting 77 = .ok (.iconst 0, 1) := by decide +kernel
theorem dX8_readsSetting_78 : decode cX8_readsSetting 78 = .ok (.ireturn, 1) := by decide +kernel
theorem dX8_readsSetting_79 : decode cX8_readsSetting 79 = .ok (.aload_n 0, 1) := by decide +kernel
theorem dX8_readsSetting_80 : decode cX8_readsSetting 80 = .ok (.bipush 59, 2) := by decide +kernel
theorem dX8_readsSetting_82 : decode cX8_readsSetting 82 = .ok (.invokevirtual 90, 3) := by decide +kernel
theorem dX8_readsSetting_85 : decode cX8_readsSetting 85 = .ok (.ireturn, 1) := by decide +kernel
theorem dX8_kindOf_0 : decode cX8_kindOf 0 = .ok (.iload_n 0, 1) := by decide +kernel
theorem dX8_kindOf_1 : decode cX8_kindOf 1 = .ok (.invokestatic 79, 3) := by decide +kernel
theorem dX8_kindOf_4 : decode cX8_kindOf 4 = .ok (.ifCond .eq 7, 3) := by decide +kernel
theorem dX8_kindOf_7 : decode cX8_kindOf 7 = .ok (.iconst 0, 1) := by decide +kernel
theorem dX8_kindOf_8 : decode cX8_kindOf 8 = .ok (.goto 44, 3) := by decide +kernel
theorem dX8_kindOf_11 : decode cX8_kindOf 11 = .ok (.iload_n 0, 1) := by decide +kernel
theorem dX8_kindOf_12 : decode cX8_kindOf 12 = .ok (.bipush 33, 2) := by decide +kernel
theorem dX8_kindOf_14 : decode cX8_kindOf 14 = .ok (.if_icmp .ne 7, 3) := by decide +kernel
theorem dX8_kindOf_17 : decode cX8_kindOf 17 = .ok (.iconst 1, 1) := by decide +kernel
theorem dX8_kindOf_18 : decode cX8_kindOf 18 = .ok (.goto 34, 3) := by decide +kernel
theorem dX8_kindOf_21 : decode cX8_kindOf 21 = .ok (.iload_n 0, 1) := by decide +kernel
theorem dX8_kindOf_22 : decode cX8_kindOf 22 = .ok (.bipush 35, 2) := by decide +kernel
theorem dX8_kindOf_24 : decode cX8_kindOf 24 = .ok (.if_icmp .ne 7, 3) := by decide +kernel
theorem dX8_kindOf_27 : decode cX8_kindOf 27 = .ok (.iconst 2, 1) := by decide +kernel
theorem dX8_kindOf_28 : decode cX8_kindOf 28 = .ok (.goto 24, 3) := by decide +kernel
theorem dX8_kindOf_31 : decode cX8_kindOf 31 = .ok (.iload_n 0, 1) := by decide +kernel
theorem dX8_kindOf_32 : decode cX8_kindOf 32 = .ok (.bipush 91, 2) := by decide +kernel
theorem dX8_kindOf_34 : decode cX8_kindOf 34 = .ok (.if_icmp .ne 7, 3) := by decide +kernel
theorem dX8_kindOf_37 : decode cX8_kindOf 37 = .ok (.iconst 3, 1) := by decide +kernel
theorem dX8_kindOf_38 : decode cX8_kindOf 38 = .ok (.goto 14, 3) := by decide +kernel
theorem dX8_kindOf_41 : decode cX8_kindOf 41 = .ok (.iload_n 0, 1) := by decide +kernel
theorem dX8_kindOf_42 : decode cX8_kindOf 42 = .ok (.bipush 63, 2) := by decide +kernel
theorem dX8_kindOf_44 : decode cX8_kindOf 44 = .ok (.if_icmp .ne 7, 3) := by decide +kernel
theorem dX8_kindOf_47 : decode cX8_kindOf 47 = .ok (.iconst 4, 1) := by decide +kernel
theorem dX8_kindOf_48 : decode cX8_kindOf 48 = .ok (.goto 4, 3) := by decide +kernel
theorem dX8_kindOf_51 : decode cX8_kindOf 51 = .ok (.iconst (-1), 1) := by decide +kernel
theorem dX8_kindOf_52 : decode cX8_kindOf 52 = .ok (.ireturn, 1) := by decide +kernel
theorem dX8_readsStatement_0 : decode cX8_readsStatement 0 = .ok (.aload_n 0, 1) := by decide +kernel
theorem dX8_readsStatement_1 : decode cX8_readsStatement 1 = .ok (.getfield 19, 3) := by decide +kernel
theorem dX8_readsStatement_4 : decode cX8_readsStatement 4 = .ok (.iconst 0, 1) := by decide +kernel
theorem dX8_readsStatement_5 : decode cX8_readsStatement 5 = .ok (.iaload, 1) := by decide +kernel
theorem dX8_readsStatement_6 : decode cX8_readsStatement 6 = .ok (.istore_n 3, 1) := by decide +kernel
theorem dX8_readsStatement_7 : decode cX8_readsStatement 7 = .ok (.iload_n 3, 1) := by decide +kernel
theorem dX8_readsStatement_8 : decode cX8_readsStatement 8 = .ok (.bipush 60, 2) := by decide +kernel
theorem dX8_readsStatement_10 : decode cX8_readsStatement 10 = .ok (.if_icmp .eq 13, 3) := by decide +kernel
theorem dX8_readsStatement_13 : decode cX8_readsStatement 13 = .ok (.iload_n 1, 1) := by decide +kernel
theorem dX8_readsStatement_14 : decode cX8_readsStatement 14 = .ok (.iconst 3, 1) := by decide +kernel
theorem dX8_readsStatement_15 : decode cX8_readsStatement 15 = .ok (.if_icmp .lt 10, 3) := by decide +kernel
theorem dX8_readsStatement_18 : decode cX8_readsStatement 18 = .ok (.iload_n 2, 1) := by decide +kernel
theorem dX8_readsStatement_19 : decode cX8_readsStatement 19 = .ok (.iconst 5, 1) := by decide +kernel
theorem dX8_readsStatement_20 : decode cX8_readsStatement 20 = .ok (.if_icmp .ne 5, 3) := by decide +kernel
theorem dX8_readsStatement_23 : decode cX8_readsStatement 23 = .ok (.iconst 0, 1) := by decide +kernel
theorem dX8_readsStatement_24 : decode cX8_readsStatement 24 = .ok (.ireturn, 1) := by decide +kernel
theorem dX8_readsStatement_25 : decode cX8_readsStatement 25 = .ok (.aload_n 0, 1) := by decide +kernel
theorem dX8_readsStatement_26 : decode cX8_readsStatement 26 = .ok (.getfield 19, 3) := by decide +kernel
theorem dX8_readsStatement_29 : decode cX8_readsStatement 29 = .ok (.iconst 0, 1) := by decide +kernel
theorem dX8_readsStatement_30 : decode cX8_readsStatement 30 = .ok (.dup2, 1) := by decide +kernel
theorem dX8_readsStatement_31 : decode cX8_readsStatement 31 = .ok (.iaload, 1) := by decide +kernel
theorem dX8_readsStatement_32 : decode cX8_readsStatement 32 = .ok (.iconst 1, 1) := by decide +kernel
theorem dX8_readsStatement_33 : decode cX8_readsStatement 33 = .ok (.iadd, 1) := by decide +kernel
theorem dX8_readsStatement_34 : decode cX8_readsStatement 34 = .ok (.iastore, 1) := by decide +kernel
theorem dX8_readsStatement_35 : decode cX8_readsStatement 35 = .ok (.iconst 0, 1) := by decide +kernel
theorem dX8_readsStatement_36 : decode cX8_readsStatement 36 = .ok (.istore 4, 2) := by decide +kernel
theorem dX8_readsStatement_38 : decode cX8_readsStatement 38 = .ok (.iload 4, 2) := by decide +kernel
theorem dX8_readsStatement_40 : decode cX8_readsStatement 40 = .ok (.bipush 7, 2) := by decide +kernel
theorem dX8_readsStatement_42 : decode cX8_readsStatement 42 = .ok (.if_icmp .ge 17, 3) := by decide +kernel
theorem dX8_readsStatement_45 : decode cX8_readsStatement 45 = .ok (.aload_n 0, 1) := by decide +kernel
theorem dX8_readsStatement_46 : decode cX8_readsStatement 46 = .ok (.iload_n 3, 1) := by decide +kernel
theorem dX8_readsStatement_47 : decode cX8_readsStatement 47 = .ok (.iload 4, 2) := by decide +kernel
theorem dX8_readsStatement_49 : decode cX8_readsStatement 49 = .ok (.iconst 0, 1) := by decide +kernel
theorem dX8_readsStatement_50 : decode cX8_readsStatement 50 = .ok (.invokevirtual 83, 3) := by decide +kernel
theorem dX8_readsStatement_53 : decode cX8_readsStatement 53 = .ok (.iinc 4 1, 3) := by decide +kernel
theorem dX8_readsStatement_56 : decode cX8_readsStatement 56 = .ok (.goto (-18), 3) := by decide +kernel
theorem dX8_readsStatement_59 : decode cX8_readsStatement 59 = .ok (.aload_n 0, 1) := by decide +kernel
theorem dX8_readsStatement_60 : decode cX8_readsStatement 60 = .ok (.iload_n 3, 1) := by decide +kernel
theorem dX8_readsStatement_61 : decode cX8_readsStatement 61 = .ok (.iconst 0, 1) := by decide +kernel
theorem dX8_readsStatement_62 : decode cX8_readsStatement 62 = .ok (.iload_n 1, 1) := by decide +kernel
theorem dX8_readsStatement_63 : decode cX8_readsStatement 63 = .ok (.invokevirtual 83, 3) := by decide +kernel
theorem dX8_readsStatement_66 : decode cX8_readsStatement 66 = .ok (.iload_n 1, 1) := by decide +kernel
theorem dX8_readsStatement_67 : decode cX8_readsStatement 67 = .ok (.ifCond .ne 9, 3) := by decide +kernel
theorem dX8_readsStatement_70 : decode cX8_readsStatement 70 = .ok (.aload_n 0, 1) := by decide +kernel
theorem dX8_readsStatement_71 : decode cX8_readsStatement 71 = .ok (.iload_n 3, 1) := by decide +kernel
theorem dX8_readsStatement_72 : decode cX8_readsStatement 72 = .ok (.invokevirtual 97, 3) := by decide +kernel
theorem dX8_readsStatement_75 : decode cX8_readsStatement 75 = .ok (.ireturn, 1) := by decide +kernel
theorem dX8_readsStatement_76 : decode cX8_readsStatement 76 = .ok (.aload_n 0, 1) := by decide +kernel
theorem dX8_readsStatement_77 : decode cX8_readsStatement 77 = .ok (.dup, 1) := by decide +kernel
theorem dX8_readsStatement_78 : decode cX8_readsStatement 78 = .ok (.getfield 72, 3) := by decide +kernel
theorem dX8_readsStatement_81 : decode cX8_readsStatement 81 = .ok (.iconst 1, 1) := by decide +kernel
theorem dX8_readsStatement_82 : decode cX8_readsStatement 82 = .ok (.iadd, 1) := by decide +kernel
theorem dX8_readsStatement_83 : decode cX8_readsStatement 83 = .ok (.putfield 72, 3) := by decide +kernel
theorem dX8_readsStatement_86 : decode cX8_readsStatement 86 = .ok (.iload_n 1, 1) := by decide +kernel
theorem dX8_readsStatement_87 : decode cX8_readsStatement 87 = .ok (.iconst 2, 1) := by decide +kernel
theorem dX8_readsStatement_88 : decode cX8_readsStatement 88 = .ok (.if_icmp .ne 10, 3) := by decide +kernel
theorem dX8_readsStatement_91 : decode cX8_readsStatement 91 = .ok (.aload_n 0, 1) := by decide +kernel
theorem dX8_readsStatement_92 : decode cX8_readsStatement 92 = .ok (.bipush 59, 2) := by decide +kernel
theorem dX8_readsStatement_94 : decode cX8_readsStatement 94 = .ok (.invokevirtual 90, 3) := by decide +kernel
theorem dX8_readsStatement_97 : decode cX8_readsStatement 97 = .ok (.ireturn, 1) := by decide +kernel
theorem dX8_readsStatement_98 : decode cX8_readsStatement 98 = .ok (.aload_n 0, 1) := by decide +kernel
theorem dX8_readsStatement_99 : decode cX8_readsStatement 99 = .ok (.iload_n 3, 1) := by decide +kernel
theorem dX8_readsStatement_100 : decode cX8_readsStatement 100 = .ok (.invokevirtual 87, 3) := by decide +kernel
theorem dX8_readsStatement_103 : decode cX8_readsStatement 103 = .ok (.ifCond .ne 5, 3) := by decide +kernel
theorem dX8_readsStatement_106 : decode cX8_readsStatement 106 = .ok (.iconst 0, 1) := by decide +kernel
theorem dX8_readsStatement_107 : decode cX8_readsStatement 107 = .ok (.ireturn, 1) := by decide +kernel
theorem dX8_readsStatement_108 : decode cX8_readsStatement 108 = .ok (.iload_n 1, 1) := by decide +kernel
theorem dX8_readsStatement_109 : decode cX8_readsStatement 109 = .ok (.iconst 1, 1) := by decide +kernel
theorem dX8_readsStatement_110 : decode cX8_readsStatement 110 = .ok (.if_icmp .ne 10, 3) := by decide +kernel
theorem dX8_readsStatement_113 : decode cX8_readsStatement 113 = .ok (.aload_n 0, 1) := by decide +kernel
theorem dX8_readsStatement_114 : decode cX8_readsStatement 114 = .ok (.bipush 59, 2) := by decide +kernel
theorem dX8_readsStatement_116 : decode cX8_readsStatement 116 = .ok (.invokevirtual 90, 3) := by decide +kernel
theorem dX8_readsStatement_119 : decode cX8_readsStatement 119 = .ok (.ireturn, 1) := by decide +kernel
theorem dX8_readsStatement_120 : decode cX8_readsStatement 120 = .ok (.aload_n 0, 1) := by decide +kernel
theorem dX8_readsStatement_121 : decode cX8_readsStatement 121 = .ok (.getfield 22, 3) := by decide +kernel
theorem dX8_readsStatement_124 : decode cX8_readsStatement 124 = .ok (.iload_n 2, 1) := by decide +kernel
theorem dX8_readsStatement_125 : decode cX8_readsStatement 125 = .ok (.iload_n 3, 1) := by decide +kernel
theorem dX8_readsStatement_126 : decode cX8_readsStatement 126 = .ok (.iastore, 1) := by decide +kernel
theorem dX8_readsStatement_127 : decode cX8_readsStatement 127 = .ok (.aload_n 0, 1) := by decide +kernel
theorem dX8_readsStatement_128 : decode cX8_readsStatement 128 = .ok (.getfield 25, 3) := by decide +kernel
theorem dX8_readsStatement_131 : decode cX8_readsStatement 131 = .ok (.iload_n 2, 1) := by decide +kernel
theorem dX8_readsStatement_132 : decode cX8_readsStatement 132 = .ok (.iload_n 1, 1) := by decide +kernel
theorem dX8_readsStatement_133 : decode cX8_readsStatement 133 = .ok (.iconst 3, 1) := by decide +kernel
theorem dX8_readsStatement_134 : decode cX8_readsStatement 134 = .ok (.if_icmp .ne 8, 3) := by decide +kernel
theorem dX8_readsStatement_137 : decode cX8_readsStatement 137 = .ok (.bipush 93, 2) := by decide +kernel
theorem dX8_readsStatement_139 : decode cX8_readsStatement 139 = .ok (.goto 5, 3) := by decide +kernel
theorem dX8_readsStatement_142 : decode cX8_readsStatement 142 = .ok (.bipush 58, 2) := by decide +kernel
theorem dX8_readsStatement_144 : decode cX8_readsStatement 144 = .ok (.iastore, 1) := by decide +kernel
theorem dX8_readsStatement_145 : decode cX8_readsStatement 145 = .ok (.iconst 1, 1) := by decide +kernel
theorem dX8_readsStatement_146 : decode cX8_readsStatement 146 = .ok (.ireturn, 1) := by decide +kernel
theorem dX8_readsAll_0 : decode cX8_readsAll 0 = .ok (.aload_n 0, 1) := by decide +kernel
theorem dX8_readsAll_1 : decode cX8_readsAll 1 = .ok (.getfield 19, 3) := by decide +kernel
theorem dX8_readsAll_4 : decode cX8_readsAll 4 = .ok (.iconst 0, 1) := by decide +kernel
theorem dX8_readsAll_5 : decode cX8_readsAll 5 = .ok (.iconst 0, 1) := by decide +kernel
theorem dX8_readsAll_6 : decode cX8_readsAll 6 = .ok (.iastore, 1) := by decide +kernel
theorem dX8_readsAll_7 : decode cX8_readsAll 7 = .ok (.aload_n 0, 1) := by decide +kernel
theorem dX8_readsAll_8 : decode cX8_readsAll 8 = .ok (.iconst 0, 1) := by decide +kernel
theorem dX8_readsAll_9 : decode cX8_readsAll 9 = .ok (.putfield 72, 3) := by decide +kernel
theorem dX8_readsAll_12 : decode cX8_readsAll 12 = .ok (.iconst 0, 1) := by decide +kernel
theorem dX8_readsAll_13 : decode cX8_readsAll 13 = .ok (.istore_n 1, 1) := by decide +kernel
theorem dX8_readsAll_14 : decode cX8_readsAll 14 = .ok (.aload_n 0, 1) := by decide +kernel
theorem dX8_readsAll_15 : decode cX8_readsAll 15 = .ok (.invokevirtual 75, 3) := by decide +kernel
theorem dX8_readsAll_18 : decode cX8_readsAll 18 = .ok (.istore_n 2, 1) := by decide +kernel
theorem dX8_readsAll_19 : decode cX8_readsAll 19 = .ok (.iload_n 2, 1) := by decide +kernel
theorem dX8_readsAll_20 : decode cX8_readsAll 20 = .ok (.ifCond .eq 136, 3) := by decide +kernel
theorem dX8_readsAll_23 : decode cX8_readsAll 23 = .ok (.iload_n 2, 1) := by decide +kernel
theorem dX8_readsAll_24 : decode cX8_readsAll 24 = .ok (.invokestatic 100, 3) := by decide +kernel
theorem dX8_readsAll_27 : decode cX8_readsAll 27 = .ok (.istore_n 3, 1) := by decide +kernel
theorem dX8_readsAll_28 : decode cX8_readsAll 28 = .ok (.iload_n 3, 1) := by decide +kernel
theorem dX8_readsAll_29 : decode cX8_readsAll 29 = .ok (.ifCond .lt 30, 3) := by decide +kernel
theorem dX8_readsAll_32 : decode cX8_readsAll 32 = .ok (.aload_n 0, 1) := by decide +kernel
theorem dX8_readsAll_33 : decode cX8_readsAll 33 = .ok (.iload_n 3, 1) := by decide +kernel
theorem dX8_readsAll_34 : decode cX8_readsAll 34 = .ok (.iload_n 1, 1) := by decide +kernel
theorem dX8_readsAll_35 : decode cX8_readsAll 35 = .ok (.invokevirtual 104, 3) := by decide +kernel
theorem dX8_readsAll_38 : decode cX8_readsAll 38 = .ok (.ifCond .ne 5, 3) := by decide +kernel
theorem dX8_readsAll_41 : decode cX8_readsAll 41 = .ok (.iconst 0, 1) := by decide +kernel
theorem dX8_readsAll_42 : decode cX8_readsAll 42 = .ok (.ireturn, 1) := by decide +kernel
theorem dX8_readsAll_43 : decode cX8_readsAll 43 = .ok (.iload_n 1, 1) := by decide +kernel
theorem dX8_readsAll_44 : decode cX8_readsAll 44 = .ok (.iload_n 3, 1) := by decide +kernel
theorem dX8_readsAll_45 : decode cX8_readsAll 45 = .ok (.iconst 3, 1) := by decide +kernel
theorem dX8_readsAll_46 : decode cX8_readsAll 46 = .ok (.if_icmp .lt 7, 3) := by decide +kernel
theorem dX8_readsAll_49 : decode cX8_readsAll 49 = .ok (.iconst 1, 1) := by decide +kernel
theorem dX8_readsAll_50 : decode cX8_readsAll 50 = .ok (.goto 4, 3) := by decide +kernel
theorem dX8_readsAll_53 : decode cX8_readsAll 53 = .ok (.iconst 0, 1) := by decide +kernel
theorem dX8_readsAll_54 : decode cX8_readsAll 54 = .ok (.iadd, 1) := by decide +kernel
theorem dX8_readsAll_55 : decode cX8_readsAll 55 = .ok (.istore_n 1, 1) := by decide +kernel
theorem dX8_readsAll_56 : decode cX8_readsAll 56 = .ok (.goto 92, 3) := by decide +kernel
theorem dX8_readsAll_59 : decode cX8_readsAll 59 = .ok (.iload_n 1, 1) := by decide +kernel
theorem dX8_readsAll_60 : decode cX8_readsAll 60 = .ok (.ifCond .le 86, 3) := by decide +kernel
theorem dX8_readsAll_63 : decode cX8_readsAll 63 = .ok (.iload_n 2, 1) := by decide +kernel
theorem dX8_readsAll_64 : decode cX8_readsAll 64 = .ok (.aload_n 0, 1) := by decide +kernel
theorem dX8_readsAll_65 : decode cX8_readsAll 65 = .ok (.getfield 25, 3) := by decide +kernel
theorem dX8_readsAll_68 : decode cX8_readsAll 68 = .ok (.iload_n 1, 1) := by decide +kernel
theorem dX8_readsAll_69 : decode cX8_readsAll 69 = .ok (.iconst 1, 1) := by decide +kernel
theorem dX8_readsAll_70 : decode cX8_readsAll 70 = .ok (.isub, 1) := by decide +kernel
theorem dX8_readsAll_71 : decode cX8_readsAll 71 = .ok (.iaload, 1) := by decide +kernel
theorem dX8_readsAll_72 : decode cX8_readsAll 72 = .ok (.if_icmp .ne 74, 3) := by decide +kernel
theorem dX8_readsAll_75 : decode cX8_readsAll 75 = .ok (.aload_n 0, 1) := by decide +kernel
theorem dX8_readsAll_76 : decode cX8_readsAll 76 = .ok (.dup, 1) := by decide +kernel
theorem dX8_readsAll_77 : decode cX8_readsAll 77 = .ok (.getfield 72, 3) := by decide +kernel
theorem dX8_readsAll_80 : decode cX8_readsAll 80 = .ok (.iconst 1, 1) := by decide +kernel
theorem dX8_readsAll_81 : decode cX8_readsAll 81 = .ok (.iadd, 1) := by decide +kernel
theorem dX8_readsAll_82 : decode cX8_readsAll 82 = .ok (.putfield 72, 3) := by decide +kernel
theorem dX8_readsAll_85 : decode cX8_readsAll 85 = .ok (.aload_n 0, 1) := by decide +kernel
theorem dX8_readsAll_86 : decode cX8_readsAll 86 = .ok (.getfield 22, 3) := by decide +kernel
theorem dX8_readsAll_89 : decode cX8_readsAll 89 = .ok (.iload_n 1, 1) := by decide +kernel
theorem dX8_readsAll_90 : decode cX8_readsAll 90 = .ok (.iconst 1, 1) := by decide +kernel
theorem dX8_readsAll_91 : decode cX8_readsAll 91 = .ok (.isub, 1) := by decide +kernel
theorem dX8_readsAll_92 : decode cX8_readsAll 92 = .ok (.iaload, 1) := by decide +kernel
theorem dX8_readsAll_93 : decode cX8_readsAll 93 = .ok (.istore 4, 2) := by decide +kernel
theorem dX8_readsAll_95 : decode cX8_readsAll 95 = .ok (.aload_n 0, 1) := by decide +kernel
theorem dX8_readsAll_96 : decode cX8_readsAll 96 = .ok (.iload 4, 2) := by decide +kernel
theorem dX8_readsAll_98 : decode cX8_readsAll 98 = .ok (.iload_n 2, 1) := by decide +kernel
theorem dX8_readsAll_99 : decode cX8_readsAll 99 = .ok (.bipush 58, 2) := by decide +kernel
theorem dX8_readsAll_101 : decode cX8_readsAll 101 = .ok (.if_icmp .ne 7, 3) := by decide +kernel
theorem dX8_readsAll_104 : decode cX8_readsAll 104 = .ok (.iconst 5, 1) := by decide +kernel
theorem dX8_readsAll_105 : decode cX8_readsAll 105 = .ok (.goto 5, 3) := by decide +kernel
theorem dX8_readsAll_108 : decode cX8_readsAll 108 = .ok (.bipush 6, 2) := by decide +kernel
theorem dX8_readsAll_110 : decode cX8_readsAll 110 = .ok (.aload_n 0, 1) := by decide +kernel
theorem dX8_readsAll_111 : decode cX8_readsAll 111 = .ok (.getfield 19, 3) := by decide +kernel
theorem dX8_readsAll_114 : decode cX8_readsAll 114 = .ok (.iconst 0, 1) := by decide +kernel
theorem dX8_readsAll_115 : decode cX8_readsAll 115 = .ok (.iaload, 1) := by decide +kernel
theorem dX8_readsAll_116 : decode cX8_readsAll 116 = .ok (.invokevirtual 83, 3) := by decide +kernel
theorem dX8_readsAll_119 : decode cX8_readsAll 119 = .ok (.aload_n 0, 1) := by decide +kernel
theorem dX8_readsAll_120 : decode cX8_readsAll 120 = .ok (.getfield 25, 3) := by decide +kernel
theorem dX8_readsAll_123 : decode cX8_readsAll 123 = .ok (.iload_n 1, 1) := by decide +kernel
theorem dX8_readsAll_124 : decode cX8_readsAll 124 = .ok (.iconst 1, 1) := by decide +kernel
theorem dX8_readsAll_125 : decode cX8_readsAll 125 = .ok (.isub, 1) := by decide +kernel
theorem dX8_readsAll_126 : decode cX8_readsAll 126 = .ok (.bipush 46, 2) := by decide +kernel
theorem dX8_readsAll_128 : decode cX8_readsAll 128 = .ok (.iastore, 1) := by decide +kernel
theorem dX8_readsAll_129 : decode cX8_readsAll 129 = .ok (.iload_n 1, 1) := by decide +kernel
theorem dX8_readsAll_130 : decode cX8_readsAll 130 = .ok (.iload_n 2, 1) := by decide +kernel
theorem dX8_readsAll_131 : decode cX8_readsAll 131 = .ok (.bipush 58, 2) := by decide +kernel
theorem dX8_readsAll_133 : decode cX8_readsAll 133 = .ok (.if_icmp .ne 7, 3) := by decide +kernel
theorem dX8_readsAll_136 : decode cX8_readsAll 136 = .ok (.iconst 0, 1) := by decide +kernel
theorem dX8_readsAll_137 : decode cX8_readsAll 137 = .ok (.goto 4, 3) := by decide +kernel
theorem dX8_readsAll_140 : decode cX8_readsAll 140 = .ok (.iconst 1, 1) := by decide +kernel
theorem dX8_readsAll_141 : decode cX8_readsAll 141 = .ok (.isub, 1) := by decide +kernel
theorem dX8_readsAll_142 : decode cX8_readsAll 142 = .ok (.istore_n 1, 1) := by decide +kernel
theorem dX8_readsAll_143 : decode cX8_readsAll 143 = .ok (.goto 5, 3) := by decide +kernel
theorem dX8_readsAll_146 : decode cX8_readsAll 146 = .ok (.iconst 0, 1) := by decide +kernel
theorem dX8_readsAll_147 : decode cX8_readsAll 147 = .ok (.ireturn, 1) := by decide +kernel
theorem dX8_readsAll_148 : decode cX8_readsAll 148 = .ok (.aload_n 0, 1) := by decide +kernel
theorem dX8_readsAll_149 : decode cX8_readsAll 149 = .ok (.invokevirtual 75, 3) := by decide +kernel
theorem dX8_readsAll_152 : decode cX8_readsAll 152 = .ok (.istore_n 2, 1) := by decide +kernel
theorem dX8_readsAll_153 : decode cX8_readsAll 153 = .ok (.goto (-134), 3) := by decide +kernel
theorem dX8_readsAll_156 : decode cX8_readsAll 156 = .ok (.iload_n 1, 1) := by decide +kernel
theorem dX8_readsAll_157 : decode cX8_readsAll 157 = .ok (.ifCond .ne 7, 3) := by decide +kernel
theorem dX8_readsAll_160 : decode cX8_readsAll 160 = .ok (.iconst 1, 1) := by decide +kernel
theorem dX8_readsAll_161 : decode cX8_readsAll 161 = .ok (.goto 4, 3) := by decide +kernel
theorem dX8_readsAll_164 : decode cX8_readsAll 164 = .ok (.iconst 0, 1) := by decide +kernel
theorem dX8_readsAll_165 : decode cX8_readsAll 165 = .ok (.ireturn, 1) := by decide +kernel
theorem dX8_read_0 : decode cX8_read 0 = .ok (.iload_n 1, 1) := by decide +kernel
theorem dX8_read_1 : decode cX8_read 1 = .ok (.invokestatic 107, 3) := by decide +kernel
theorem dX8_read_4 : decode cX8_read 4 = .ok (.ifCond .ne 7, 3) := by decide +kernel
theorem dX8_read_7 : decode cX8_read 7 = .ok (.sipush (-10001), 3) := by decide +kernel
theorem dX8_read_10 : decode cX8_read 10 = .ok (.ireturn, 1) := by decide +kernel
theorem dX8_read_11 : decode cX8_read 11 = .ok (.aload_n 0, 1) := by decide +kernel
theorem dX8_read_12 : decode cX8_read 12 = .ok (.invokevirtual 110, 3) := by decide +kernel
theorem dX8_read_15 : decode cX8_read 15 = .ok (.ifCond .ne 12, 3) := by decide +kernel
theorem dX8_read_18 : decode cX8_read 18 = .ok (.sipush (-1000), 3) := by decide +kernel
theorem dX8_read_21 : decode cX8_read 21 = .ok (.aload_n 0, 1) := by decide +kernel
theorem dX8_read_22 : decode cX8_read 22 = .ok (.getfield 72, 3) := by decide +kernel
theorem dX8_read_25 : decode cX8_read 25 = .ok (.isub, 1) := by decide +kernel
theorem dX8_read_26 : decode cX8_read 26 = .ok (.ireturn, 1) := by decide +kernel
theorem dX8_read_27 : decode cX8_read 27 = .ok (.aload_n 0, 1) := by decide +kernel
theorem dX8_read_28 : decode cX8_read 28 = .ok (.invokevirtual 114, 3) := by decide +kernel
theorem dX8_read_31 : decode cX8_read 31 = .ok (.aload_n 0, 1) := by decide +kernel
theorem dX8_read_32 : decode cX8_read 32 = .ok (.iload_n 1, 1) := by decide +kernel
theorem dX8_read_33 : decode cX8_read 33 = .ok (.invokevirtual 117, 3) := by decide +kernel
theorem dX8_read_36 : decode cX8_read 36 = .ok (.aload_n 0, 1) := by decide +kernel
theorem dX8_read_37 : decode cX8_read 37 = .ok (.getfield 19, 3) := by decide +kernel
theorem dX8_read_40 : decode cX8_read 40 = .ok (.iconst 0, 1) := by decide +kernel
theorem dX8_read_41 : decode cX8_read 41 = .ok (.iaload, 1) := by decide +kernel
theorem dX8_read_42 : decode cX8_read 42 = .ok (.ireturn, 1) := by decide +kernel
theorem dX8_copy_0 : decode cX8_copy 0 = .ok (.aload_n 0, 1) := by decide +kernel
theorem dX8_copy_1 : decode cX8_copy 1 = .ok (.invokevirtual 114, 3) := by decide +kernel
theorem dX8_copy_4 : decode cX8_copy 4 = .ok (.aload_n 0, 1) := by decide +kernel
theorem dX8_copy_5 : decode cX8_copy 5 = .ok (.iconst 0, 1) := by decide +kernel
theorem dX8_copy_6 : decode cX8_copy 6 = .ok (.invokevirtual 121, 3) := by decide +kernel
theorem dX8_copy_9 : decode cX8_copy 9 = .ok (.aload_n 0, 1) := by decide +kernel
theorem dX8_copy_10 : decode cX8_copy 10 = .ok (.iconst 1, 1) := by decide +kernel
theorem dX8_copy_11 : decode cX8_copy 11 = .ok (.invokevirtual 117, 3) := by decide +kernel
theorem dX8_copy_14 : decode cX8_copy 14 = .ok (.aload_n 0, 1) := by decide +kernel
theorem dX8_copy_15 : decode cX8_copy 15 = .ok (.getfield 19, 3) := by decide +kernel
theorem dX8_copy_18 : decode cX8_copy 18 = .ok (.iconst 0, 1) := by decide +kernel
theorem dX8_copy_19 : decode cX8_copy 19 = .ok (.iaload, 1) := by decide +kernel
theorem dX8_copy_20 : decode cX8_copy 20 = .ok (.ireturn, 1) := by decide +kernel
theorem dX8_exchange_0 : decode cX8_exchange 0 = .ok (.aload_n 0, 1) := by decide +kernel
theorem dX8_exchange_1 : decode cX8_exchange 1 = .ok (.invokevirtual 114, 3) := by decide +kernel
theorem dX8_exchange_4 : decode cX8_exchange 4 = .ok (.aload_n 0, 1) := by decide +kernel
theorem dX8_exchange_5 : decode cX8_exchange 5 = .ok (.iconst 0, 1) := by decide +kernel
theorem dX8_exchange_6 : decode cX8_exchange 6 = .ok (.invokevirtual 121, 3) := by decide +kernel
theorem dX8_exchange_9 : decode cX8_exchange 9 = .ok (.iconst 0, 1) := by decide +kernel
theorem dX8_exchange_10 : decode cX8_exchange 10 = .ok (.istore_n 1, 1) := by decide +kernel
theorem dX8_exchange_11 : decode cX8_exchange 11 = .ok (.iload_n 1, 1) := by decide +kernel
theorem dX8_exchange_12 : decode cX8_exchange 12 = .ok (.sipush 421, 3) := by decide +kernel
theorem dX8_exchange_15 : decode cX8_exchange 15 = .ok (.if_icmp .ge 25, 3) := by decide +kernel
theorem dX8_exchange_18 : decode cX8_exchange 18 = .ok (.aload_n 0, 1) := by decide +kernel
theorem dX8_exchange_19 : decode cX8_exchange 19 = .ok (.getfield 7, 3) := by decide +kernel
theorem dX8_exchange_22 : decode cX8_exchange 22 = .ok (.iload_n 1, 1) := by decide +kernel
theorem dX8_exchange_23 : decode cX8_exchange 23 = .ok (.aload_n 0, 1) := by decide +kernel
theorem dX8_exchange_24 : decode cX8_exchange 24 = .ok (.getfield 7, 3) := by decide +kernel
theorem dX8_exchange_27 : decode cX8_exchange 27 = .ok (.sipush 421, 3) := by decide +kernel
theorem dX8_exchange_30 : decode cX8_exchange 30 = .ok (.iload_n 1, 1) := by decide +kernel
theorem dX8_exchange_31 : decode cX8_exchange 31 = .ok (.iadd, 1) := by decide +kernel
theorem dX8_exchange_32 : decode cX8_exchange 32 = .ok (.iaload, 1) := by decide +kernel
theorem dX8_exchange_33 : decode cX8_exchange 33 = .ok (.iastore, 1) := by decide +kernel
theorem dX8_exchange_34 : decode cX8_exchange 34 = .ok (.iinc 1 1, 3) := by decide +kernel
theorem dX8_exchange_37 : decode cX8_exchange 37 = .ok (.goto (-26), 3) := by decide +kernel
theorem dX8_exchange_40 : decode cX8_exchange 40 = .ok (.aload_n 0, 1) := by decide +kernel
theorem dX8_exchange_41 : decode cX8_exchange 41 = .ok (.iconst 1, 1) := by decide +kernel
theorem dX8_exchange_42 : decode cX8_exchange 42 = .ok (.invokevirtual 117, 3) := by decide +kernel
theorem dX8_exchange_45 : decode cX8_exchange 45 = .ok (.aload_n 0, 1) := by decide +kernel
theorem dX8_exchange_46 : decode cX8_exchange 46 = .ok (.getfield 7, 3) := by decide +kernel
theorem dX8_exchange_49 : decode cX8_exchange 49 = .ok (.iconst 0, 1) := by decide +kernel
theorem dX8_exchange_50 : decode cX8_exchange 50 = .ok (.iaload, 1) := by decide +kernel
theorem dX8_exchange_51 : decode cX8_exchange 51 = .ok (.ireturn, 1) := by decide +kernel
theorem dX8_sizeOf_0 : decode cX8_sizeOf 0 = .ok (.aload_n 0, 1) := by decide +kernel
theorem dX8_sizeOf_1 : decode cX8_sizeOf 1 = .ok (.iload_n 1, 1) := by decide +kernel
theorem dX8_sizeOf_2 : decode cX8_sizeOf 2 = .ok (.iconst 0, 1) := by decide +kernel
theorem dX8_sizeOf_3 : decode cX8_sizeOf 3 = .ok (.invokevirtual 124, 3) := by decide +kernel
theorem dX8_sizeOf_6 : decode cX8_sizeOf 6 = .ok (.iconst 3, 1) := by decide +kernel
theorem dX8_sizeOf_7 : decode cX8_sizeOf 7 = .ok (.if_icmp .lt 15, 3) := by decide +kernel
theorem dX8_sizeOf_10 : decode cX8_sizeOf 10 = .ok (.aload_n 0, 1) := by decide +kernel
theorem dX8_sizeOf_11 : decode cX8_sizeOf 11 = .ok (.iload_n 1, 1) := by decide +kernel
theorem dX8_sizeOf_12 : decode cX8_sizeOf 12 = .ok (.bipush 6, 2) := by decide +kernel
theorem dX8_sizeOf_14 : decode cX8_sizeOf 14 = .ok (.invokevirtual 124, 3) := by decide +kernel
theorem dX8_sizeOf_17 : decode cX8_sizeOf 17 = .ok (.iload_n 1, 1) := by decide +kernel
theorem dX8_sizeOf_18 : decode cX8_sizeOf 18 = .ok (.isub, 1) := by decide +kernel
theorem dX8_sizeOf_19 : decode cX8_sizeOf 19 = .ok (.goto 4, 3) := by decide +kernel
theorem dX8_sizeOf_22 : decode cX8_sizeOf 22 = .ok (.iconst 1, 1) := by decide +kernel
theorem dX8_sizeOf_23 : decode cX8_sizeOf 23 = .ok (.ireturn, 1) := by decide +kernel
theorem dX8_cuts_0 : decode cX8_cuts 0 = .ok (.aload_n 0, 1) := by decide +kernel
theorem dX8_cuts_1 : decode cX8_cuts 1 = .ok (.iload_n 1, 1) := by decide +kernel
theorem dX8_cuts_2 : decode cX8_cuts 2 = .ok (.invokevirtual 128, 3) := by decide +kernel
theorem dX8_cuts_5 : decode cX8_cuts 5 = .ok (.istore_n 2, 1) := by decide +kernel
theorem dX8_cuts_6 : decode cX8_cuts 6 = .ok (.aload_n 0, 1) := by decide +kernel
theorem dX8_cuts_7 : decode cX8_cuts 7 = .ok (.getfield 19, 3) := by decide +kernel
theorem dX8_cuts_10 : decode cX8_cuts 10 = .ok (.iconst 0, 1) := by decide +kernel
theorem dX8_cuts_11 : decode cX8_cuts 11 = .ok (.iaload, 1) := by decide +kernel
theorem dX8_cuts_12 : decode cX8_cuts 12 = .ok (.iload_n 2, 1) := by decide +kernel
theorem dX8_cuts_13 : decode cX8_cuts 13 = .ok (.isub, 1) := by decide +kernel
theorem dX8_cuts_14 : decode cX8_cuts 14 = .ok (.istore_n 3, 1) := by decide +kernel
theorem dX8_cuts_15 : decode cX8_cuts 15 = .ok (.iconst 0, 1) := by decide +kernel
theorem dX8_cuts_16 : decode cX8_cuts 16 = .ok (.istore 4, 2) := by decide +kernel
theorem dX8_cuts_18 : decode cX8_cuts 18 = .ok (.iload 4, 2) := by decide +kernel
theorem dX8_cuts_20 : decode cX8_cuts 20 = .ok (.aload_n 0, 1) := by decide +kernel
theorem dX8_cuts_21 : decode cX8_cuts 21 = .ok (.getfield 19, 3) := by decide +kernel
theorem dX8_cuts_24 : decode cX8_cuts 24 = .ok (.iconst 0, 1) := by decide +kernel
theorem dX8_cuts_25 : decode cX8_cuts 25 = .ok (.iaload, 1) := by decide +kernel
theorem dX8_cuts_26 : decode cX8_cuts 26 = .ok (.if_icmp .ge 119, 3) := by decide +kernel
theorem dX8_cuts_29 : decode cX8_cuts 29 = .ok (.aload_n 0, 1) := by decide +kernel
theorem dX8_cuts_30 : decode cX8_cuts 30 = .ok (.iload 4, 2) := by decide +kernel
theorem dX8_cuts_32 : decode cX8_cuts 32 = .ok (.iconst 0, 1) := by decide +kernel
theorem dX8_cuts_33 : decode cX8_cuts 33 = .ok (.invokevirtual 124, 3) := by decide +kernel
theorem dX8_cuts_36 : decode cX8_cuts 36 = .ok (.iconst 3, 1) := by decide +kernel
theorem dX8_cuts_37 : decode cX8_cuts 37 = .ok (.if_icmp .lt 21, 3) := by decide +kernel
theorem dX8_cuts_40 : decode cX8_cuts 40 = .ok (.iload 4, 2) := by decide +kernel
theorem dX8_cuts_42 : decode cX8_cuts 42 = .ok (.iload_n 1, 1) := by decide +kernel
theorem dX8_cuts_43 : decode cX8_cuts 43 = .ok (.if_icmp .lt 11, 3) := by decide +kernel
theorem dX8_cuts_46 : decode cX8_cuts 46 = .ok (.iload 4, 2) := by decide +kernel
theorem dX8_cuts_48 : decode cX8_cuts 48 = .ok (.iload_n 1, 1) := by decide +kernel
theorem dX8_cuts_49 : decode cX8_cuts 49 = .ok (.iload_n 2, 1) := by decide +kernel
theorem dX8_cuts_50 : decode cX8_cuts 50 = .ok (.iadd, 1) := by decide +kernel
theorem dX8_cuts_51 : decode cX8_cuts 51 = .ok (.if_icmp .lt 7, 3) := by decide +kernel
theorem dX8_cuts_54 : decode cX8_cuts 54 = .ok (.iconst 1, 1) := by decide +kernel
theorem dX8_cuts_55 : decode cX8_cuts 55 = .ok (.goto 4, 3) := by decide +kernel
theorem dX8_cuts_58 : decode cX8_cuts 58 = .ok (.iconst 0, 1) := by decide +kernel
theorem dX8_cuts_59 : decode cX8_cuts 59 = .ok (.istore 5, 2) := by decide +kernel
theorem dX8_cuts_61 : decode cX8_cuts 61 = .ok (.iload 5, 2) := by decide +kernel
theorem dX8_cuts_63 : decode cX8_cuts 63 = .ok (.ifCond .eq 33, 3) := by decide +kernel
theorem dX8_cuts_66 : decode cX8_cuts 66 = .ok (.aload_n 0, 1) := by decide +kernel
theorem dX8_cuts_67 : decode cX8_cuts 67 = .ok (.iload 4, 2) := by decide +kernel
theorem dX8_cuts_69 : decode cX8_cuts 69 = .ok (.bipush 6, 2) := by decide +kernel
theorem dX8_cuts_71 : decode cX8_cuts 71 = .ok (.invokevirtual 124, 3) := by decide +kernel
theorem dX8_cuts_74 : decode cX8_cuts 74 = .ok (.iload_n 1, 1) := by decide +kernel
theorem dX8_cuts_75 : decode cX8_cuts 75 = .ok (.if_icmp .le 21, 3) := by decide +kernel
theorem dX8_cuts_78 : decode cX8_cuts 78 = .ok (.aload_n 0, 1) := by decide +kernel
theorem dX8_cuts_79 : decode cX8_cuts 79 = .ok (.iload 4, 2) := by decide +kernel
theorem dX8_cuts_81 : decode cX8_cuts 81 = .ok (.bipush 6, 2) := by decide +kernel
theorem dX8_cuts_83 : decode cX8_cuts 83 = .ok (.aload_n 0, 1) := by decide +kernel
theorem dX8_cuts_84 : decode cX8_cuts 84 = .ok (.iload 4, 2) := by decide +kernel
theorem dX8_cuts_86 : decode cX8_cuts 86 = .ok (.bipush 6, 2) := by decide +kernel
theorem dX8_cuts_88 : decode cX8_cuts 88 = .ok (.invokevirtual 124, 3) := by decide +kernel
theorem dX8_cuts_91 : decode cX8_cuts 91 = .ok (.iload_n 2, 1) := by decide +kernel
theorem dX8_cuts_92 : decode cX8_cuts 92 = .ok (.isub, 1) := by decide +kernel
theorem dX8_cuts_93 : decode cX8_cuts 93 = .ok (.invokevirtual 83, 3) := by decide +kernel
theorem dX8_cuts_96 : decode cX8_cuts 96 = .ok (.iload 5, 2) := by decide +kernel
theorem dX8_cuts_98 : decode cX8_cuts 98 = .ok (.ifCond .eq 41, 3) := by decide +kernel
theorem dX8_cuts_101 : decode cX8_cuts 101 = .ok (.aload_n 0, 1) := by decide +kernel
theorem dX8_cuts_102 : decode cX8_cuts 102 = .ok (.iload 4, 2) := by decide +kernel
theorem dX8_cuts_104 : decode cX8_cuts 104 = .ok (.iconst 0, 1) := by decide +kernel
theorem dX8_cuts_105 : decode cX8_cuts 105 = .ok (.invokevirtual 124, 3) := by decide +kernel
theorem dX8_cuts_108 : decode cX8_cuts 108 = .ok (.iconst 4, 1) := by decide +kernel
theorem dX8_cuts_109 : decode cX8_cuts 109 = .ok (.if_icmp .ne 30, 3) := by decide +kernel
theorem dX8_cuts_112 : decode cX8_cuts 112 = .ok (.aload_n 0, 1) := by decide +kernel
theorem dX8_cuts_113 : decode cX8_cuts 113 = .ok (.iload 4, 2) := by decide +kernel
theorem dX8_cuts_115 : decode cX8_cuts 115 = .ok (.iconst 5, 1) := by decide +kernel
theorem dX8_cuts_116 : decode cX8_cuts 116 = .ok (.invokevirtual 124, 3) := by decide +kernel
theorem dX8_cuts_119 : decode cX8_cuts 119 = .ok (.iload_n 1, 1) := by decide +kernel
theorem dX8_cuts_120 : decode cX8_cuts 120 = .ok (.if_icmp .le 19, 3) := by decide +kernel
theorem dX8_cuts_123 : decode cX8_cuts 123 = .ok (.aload_n 0, 1) := by decide +kernel
theorem dX8_cuts_124 : decode cX8_cuts 124 = .ok (.iload 4, 2) := by decide +kernel
theorem dX8_cuts_126 : decode cX8_cuts 126 = .ok (.iconst 5, 1) := by decide +kernel
theorem dX8_cuts_127 : decode cX8_cuts 127 = .ok (.aload_n 0, 1) := by decide +kernel
theorem dX8_cuts_128 : decode cX8_cuts 128 = .ok (.iload 4, 2) := by decide +kernel
theorem dX8_cuts_130 : decode cX8_cuts 130 = .ok (.iconst 5, 1) := by decide +kernel
theorem dX8_cuts_131 : decode cX8_cuts 131 = .ok (.invokevirtual 124, 3) := by decide +kernel
theorem dX8_cuts_134 : decode cX8_cuts 134 = .ok (.iload_n 2, 1) := by decide +kernel
theorem dX8_cuts_135 : decode cX8_cuts 135 = .ok (.isub, 1) := by decide +kernel
theorem dX8_cuts_136 : decode cX8_cuts 136 = .ok (.invokevirtual 83, 3) := by decide +kernel
theorem dX8_cuts_139 : decode cX8_cuts 139 = .ok (.iinc 4 1, 3) := by decide +kernel
theorem dX8_cuts_142 : decode cX8_cuts 142 = .ok (.goto (-124), 3) := by decide +kernel
theorem dX8_cuts_145 : decode cX8_cuts 145 = .ok (.iload_n 1, 1) := by decide +kernel
theorem dX8_cuts_146 : decode cX8_cuts 146 = .ok (.istore 4, 2) := by decide +kernel
theorem dX8_cuts_148 : decode cX8_cuts 148 = .ok (.iload 4, 2) := by decide +kernel
theorem dX8_cuts_150 : decode cX8_cuts 150 = .ok (.iload_n 3, 1) := by decide +kernel
theorem dX8_cuts_151 : decode cX8_cuts 151 = .ok (.if_icmp .ge 43, 3) := by decide +kernel
theorem dX8_cuts_154 : decode cX8_cuts 154 = .ok (.iconst 0, 1) := by decide +kernel
theorem dX8_cuts_155 : decode cX8_cuts 155 = .ok (.istore 5, 2) := by decide +kernel
theorem dX8_cuts_157 : decode cX8_cuts 157 = .ok (.iload 5, 2) := by decide +kernel
theorem dX8_cuts_159 : decode cX8_cuts 159 = .ok (.bipush 7, 2) := by decide +kernel
theorem dX8_cuts_161 : decode cX8_cuts 161 = .ok (.if_icmp .ge 27, 3) := by decide +kernel
theorem dX8_cuts_164 : decode cX8_cuts 164 = .ok (.aload_n 0, 1) := by decide +kernel
theorem dX8_cuts_165 : decode cX8_cuts 165 = .ok (.iload 4, 2) := by decide +kernel
theorem dX8_cuts_167 : decode cX8_cuts 167 = .ok (.iload 5, 2) := by decide +kernel
theorem dX8_cuts_169 : decode cX8_cuts 169 = .ok (.aload_n 0, 1) := by decide +kernel
theorem dX8_cuts_170 : decode cX8_cuts 170 = .ok (.iload 4, 2) := by decide +kernel
theorem dX8_cuts_172 : decode cX8_cuts 172 = .ok (.iload_n 2, 1) := by decide +kernel
theorem dX8_cuts_173 : decode cX8_cuts 173 = .ok (.iadd, 1) := by decide +kernel
theorem dX8_cuts_174 : decode cX8_cuts 174 = .ok (.iload 5, 2) := by decide +kernel
theorem dX8_cuts_176 : decode cX8_cuts 176 = .ok (.invokevirtual 124, 3) := by decide +kernel
theorem dX8_cuts_179 : decode cX8_cuts 179 = .ok (.invokevirtual 83, 3) := by decide +kernel
theorem dX8_cuts_182 : decode cX8_cuts 182 = .ok (.iinc 5 1, 3) := by decide +kernel
theorem dX8_cuts_185 : decode cX8_cuts 185 = .ok (.goto (-28), 3) := by decide +kernel
theorem dX8_cuts_188 : decode cX8_cuts 188 = .ok (.iinc 4 1, 3) := by decide +kernel
theorem dX8_cuts_191 : decode cX8_cuts 191 = .ok (.goto (-43), 3) := by decide +kernel
theorem dX8_cuts_194 : decode cX8_cuts 194 = .ok (.aload_n 0, 1) := by decide +kernel
theorem dX8_cuts_195 : decode cX8_cuts 195 = .ok (.getfield 19, 3) := by decide +kernel
theorem dX8_cuts_198 : decode cX8_cuts 198 = .ok (.iconst 0, 1) := by decide +kernel
theorem dX8_cuts_199 : decode cX8_cuts 199 = .ok (.iload_n 3, 1) := by decide +kernel
theorem dX8_cuts_200 : decode cX8_cuts 200 = .ok (.iastore, 1) := by decide +kernel
theorem dX8_cuts_201 : decode cX8_cuts 201 = .ok (.return_, 1) := by decide +kernel
theorem dX8_isStatement_0 : decode cX8_isStatement 0 = .ok (.iload_n 1, 1) := by decide +kernel
theorem dX8_isStatement_1 : decode cX8_isStatement 1 = .ok (.invokestatic 107, 3) := by decide +kernel
theorem dX8_isStatement_4 : decode cX8_isStatement 4 = .ok (.ifCond .eq 27, 3) := by decide +kernel
theorem dX8_isStatement_7 : decode cX8_isStatement 7 = .ok (.iload_n 2, 1) := by decide +kernel
theorem dX8_isStatement_8 : decode cX8_isStatement 8 = .ok (.iconst 0, 1) := by decide +kernel
theorem dX8_isStatement_9 : decode cX8_isStatement 9 = .ok (.aload_n 0, 1) := by decide +kernel
theorem dX8_isStatement_10 : decode cX8_isStatement 10 = .ok (.getfield 7, 3) := by decide +kernel
theorem dX8_isStatement_13 : decode cX8_isStatement 13 = .ok (.sipush 421, 3) := by decide +kernel
theorem dX8_isStatement_16 : decode cX8_isStatement 16 = .ok (.iload_n 1, 1) := by decide +kernel
theorem dX8_isStatement_17 : decode cX8_isStatement 17 = .ok (.imul, 1) := by decide +kernel
theorem dX8_isStatement_18 : decode cX8_isStatement 18 = .ok (.iaload, 1) := by decide +kernel
theorem dX8_isStatement_19 : decode cX8_isStatement 19 = .ok (.iconst 1, 1) := by decide +kernel
theorem dX8_isStatement_20 : decode cX8_isStatement 20 = .ok (.isub, 1) := by decide +kernel
theorem dX8_isStatement_21 : decode cX8_isStatement 21 = .ok (.invokestatic 61, 3) := by decide +kernel
theorem dX8_isStatement_24 : decode cX8_isStatement 24 = .ok (.ifCond .eq 7, 3) := by decide +kernel
theorem dX8_isStatement_27 : decode cX8_isStatement 27 = .ok (.iconst 1, 1) := by decide +kernel
theorem dX8_isStatement_28 : decode cX8_isStatement 28 = .ok (.goto 4, 3) := by decide +kernel
theorem dX8_isStatement_31 : decode cX8_isStatement 31 = .ok (.iconst 0, 1) := by decide +kernel
theorem dX8_isStatement_32 : decode cX8_isStatement 32 = .ok (.ireturn, 1) := by decide +kernel
theorem dX8_cut_0 : decode cX8_cut 0 = .ok (.aload_n 0, 1) := by decide +kernel
theorem dX8_cut_1 : decode cX8_cut 1 = .ok (.iload_n 1, 1) := by decide +kernel
theorem dX8_cut_2 : decode cX8_cut 2 = .ok (.iload_n 2, 1) := by decide +kernel
theorem dX8_cut_3 : decode cX8_cut 3 = .ok (.invokevirtual 131, 3) := by decide +kernel
theorem dX8_cut_6 : decode cX8_cut 6 = .ok (.ifCond .ne 7, 3) := by decide +kernel
theorem dX8_cut_9 : decode cX8_cut 9 = .ok (.sipush (-10001), 3) := by decide +kernel
theorem dX8_cut_12 : decode cX8_cut 12 = .ok (.ireturn, 1) := by decide +kernel
theorem dX8_cut_13 : decode cX8_cut 13 = .ok (.aload_n 0, 1) := by decide +kernel
theorem dX8_cut_14 : decode cX8_cut 14 = .ok (.invokevirtual 114, 3) := by decide +kernel
theorem dX8_cut_17 : decode cX8_cut 17 = .ok (.aload_n 0, 1) := by decide +kernel
theorem dX8_cut_18 : decode cX8_cut 18 = .ok (.iload_n 1, 1) := by decide +kernel
theorem dX8_cut_19 : decode cX8_cut 19 = .ok (.invokevirtual 121, 3) := by decide +kernel
theorem dX8_cut_22 : decode cX8_cut 22 = .ok (.aload_n 0, 1) := by decide +kernel
theorem dX8_cut_23 : decode cX8_cut 23 = .ok (.iload_n 2, 1) := by decide +kernel
theorem dX8_cut_24 : decode cX8_cut 24 = .ok (.invokevirtual 134, 3) := by decide +kernel
theorem dX8_cut_27 : decode cX8_cut 27 = .ok (.aload_n 0, 1) := by decide +kernel
theorem dX8_cut_28 : decode cX8_cut 28 = .ok (.iload_n 1, 1) := by decide +kernel
theorem dX8_cut_29 : decode cX8_cut 29 = .ok (.invokevirtual 117, 3) := by decide +kernel
theorem dX8_cut_32 : decode cX8_cut 32 = .ok (.aload_n 0, 1) := by decide +kernel
theorem dX8_cut_33 : decode cX8_cut 33 = .ok (.getfield 19, 3) := by decide +kernel
theorem dX8_cut_36 : decode cX8_cut 36 = .ok (.iconst 0, 1) := by decide +kernel
theorem dX8_cut_37 : decode cX8_cut 37 = .ok (.iaload, 1) := by decide +kernel
theorem dX8_cut_38 : decode cX8_cut 38 = .ok (.ireturn, 1) := by decide +kernel
theorem dX8_count_0 : decode cX8_count 0 = .ok (.iload_n 1, 1) := by decide +kernel
theorem dX8_count_1 : decode cX8_count 1 = .ok (.tableswitch 57 0 3 #[31, 38, 47, 52], 31) := by decide +kernel
theorem dX8_count_32 : decode cX8_count 32 = .ok (.aload_n 0, 1) := by decide +kernel
theorem dX8_count_33 : decode cX8_count 33 = .ok (.getfield 7, 3) := by decide +kernel
theorem dX8_count_36 : decode cX8_count 36 = .ok (.iconst 0, 1) := by decide +kernel
theorem dX8_count_37 : decode cX8_count 37 = .ok (.iaload, 1) := by decide +kernel
theorem dX8_count_38 : decode cX8_count 38 = .ok (.ireturn, 1) := by decide +kernel
theorem dX8_count_39 : decode cX8_count 39 = .ok (.aload_n 0, 1) := by decide +kernel
theorem dX8_count_40 : decode cX8_count 40 = .ok (.getfield 7, 3) := by decide +kernel
theorem dX8_count_43 : decode cX8_count 43 = .ok (.sipush 421, 3) := by decide +kernel
theorem dX8_count_46 : decode cX8_count 46 = .ok (.iaload, 1) := by decide +kernel
theorem dX8_count_47 : decode cX8_count 47 = .ok (.ireturn, 1) := by decide +kernel
theorem dX8_count_48 : decode cX8_count 48 = .ok (.aload_n 0, 1) := by decide +kernel
theorem dX8_count_49 : decode cX8_count 49 = .ok (.getfield 65, 3) := by decide +kernel
theorem dX8_count_52 : decode cX8_count 52 = .ok (.ireturn, 1) := by decide +kernel
theorem dX8_count_53 : decode cX8_count 53 = .ok (.aload_n 0, 1) := by decide +kernel
theorem dX8_count_54 : decode cX8_count 54 = .ok (.getfield 69, 3) := by decide +kernel
theorem dX8_count_57 : decode cX8_count 57 = .ok (.ireturn, 1) := by decide +kernel
theorem dX8_count_58 : decode cX8_count 58 = .ok (.sipush (-10001), 3) := by decide +kernel
theorem dX8_count_61 : decode cX8_count 61 = .ok (.ireturn, 1) := by decide +kernel
theorem dX8_ofKind_0 : decode cX8_ofKind 0 = .ok (.iconst 0, 1) := by decide +kernel
theorem dX8_ofKind_1 : decode cX8_ofKind 1 = .ok (.istore_n 2, 1) := by decide +kernel
theorem dX8_ofKind_2 : decode cX8_ofKind 2 = .ok (.iconst 0, 1) := by decide +kernel
theorem dX8_ofKind_3 : decode cX8_ofKind 3 = .ok (.istore_n 3, 1) := by decide +kernel
theorem dX8_ofKind_4 : decode cX8_ofKind 4 = .ok (.iload_n 3, 1) := by decide +kernel
theorem dX8_ofKind_5 : decode cX8_ofKind 5 = .ok (.aload_n 0, 1) := by decide +kernel
theorem dX8_ofKind_6 : decode cX8_ofKind 6 = .ok (.getfield 19, 3) := by decide +kernel
theorem dX8_ofKind_9 : decode cX8_ofKind 9 = .ok (.iconst 0, 1) := by decide +kernel
theorem dX8_ofKind_10 : decode cX8_ofKind 10 = .ok (.iaload, 1) := by decide +kernel
theorem dX8_ofKind_11 : decode cX8_ofKind 11 = .ok (.if_icmp .ge 27, 3) := by decide +kernel
theorem dX8_ofKind_14 : decode cX8_ofKind 14 = .ok (.iload_n 2, 1) := by decide +kernel
theorem dX8_ofKind_15 : decode cX8_ofKind 15 = .ok (.aload_n 0, 1) := by decide +kernel
theorem dX8_ofKind_16 : decode cX8_ofKind 16 = .ok (.iload_n 3, 1) := by decide +kernel
theorem dX8_ofKind_17 : decode cX8_ofKind 17 = .ok (.iconst 0, 1) := by decide +kernel
theorem dX8_ofKind_18 : decode cX8_ofKind 18 = .ok (.invokevirtual 124, 3) := by decide +kernel
theorem dX8_ofKind_21 : decode cX8_ofKind 21 = .ok (.iload_n 1, 1) := by decide +kernel
theorem dX8_ofKind_22 : decode cX8_ofKind 22 = .ok (.if_icmp .ne 7, 3) := by decide +kernel
theorem dX8_ofKind_25 : decode cX8_ofKind 25 = .ok (.iconst 1, 1) := by decide +kernel
theorem dX8_ofKind_26 : decode cX8_ofKind 26 = .ok (.goto 4, 3) := by decide +kernel
theorem dX8_ofKind_29 : decode cX8_ofKind 29 = .ok (.iconst 0, 1) := by decide +kernel
theorem dX8_ofKind_30 : decode cX8_ofKind 30 = .ok (.iadd, 1) := by decide +kernel
theorem dX8_ofKind_31 : decode cX8_ofKind 31 = .ok (.istore_n 2, 1) := by decide +kernel
theorem dX8_ofKind_32 : decode cX8_ofKind 32 = .ok (.iinc 3 1, 3) := by decide +kernel
theorem dX8_ofKind_35 : decode cX8_ofKind 35 = .ok (.goto (-31), 3) := by decide +kernel
theorem dX8_ofKind_38 : decode cX8_ofKind 38 = .ok (.iload_n 2, 1) := by decide +kernel
theorem dX8_ofKind_39 : decode cX8_ofKind 39 = .ok (.ireturn, 1) := by decide +kernel
theorem dX8_depthAll_0 : decode cX8_depthAll 0 = .ok (.iconst 0, 1) := by decide +kernel
theorem dX8_depthAll_1 : decode cX8_depthAll 1 = .ok (.istore_n 1, 1) := by decide +kernel
theorem dX8_depthAll_2 : decode cX8_depthAll 2 = .ok (.iconst 0, 1) := by decide +kernel
theorem dX8_depthAll_3 : decode cX8_depthAll 3 = .ok (.istore_n 2, 1) := by decide +kernel
theorem dX8_depthAll_4 : decode cX8_depthAll 4 = .ok (.iload_n 2, 1) := by decide +kernel
theorem dX8_depthAll_5 : decode cX8_depthAll 5 = .ok (.aload_n 0, 1) := by decide +kernel
theorem dX8_depthAll_6 : decode cX8_depthAll 6 = .ok (.getfield 19, 3) := by decide +kernel
theorem dX8_depthAll_9 : decode cX8_depthAll 9 = .ok (.iconst 0, 1) := by decide +kernel
theorem dX8_depthAll_10 : decode cX8_depthAll 10 = .ok (.iaload, 1) := by decide +kernel
theorem dX8_depthAll_11 : decode cX8_depthAll 11 = .ok (.if_icmp .ge 92, 3) := by decide +kernel
theorem dX8_depthAll_14 : decode cX8_depthAll 14 = .ok (.aload_n 0, 1) := by decide +kernel
theorem dX8_depthAll_15 : decode cX8_depthAll 15 = .ok (.iload_n 2, 1) := by decide +kernel
theorem dX8_depthAll_16 : decode cX8_depthAll 16 = .ok (.iconst 0, 1) := by decide +kernel
theorem dX8_depthAll_17 : decode cX8_depthAll 17 = .ok (.invokevirtual 124, 3) := by decide +kernel
theorem dX8_depthAll_20 : decode cX8_depthAll 20 = .ok (.iconst 3, 1) := by decide +kernel
theorem dX8_depthAll_21 : decode cX8_depthAll 21 = .ok (.if_icmp .lt 7, 3) := by decide +kernel
theorem dX8_depthAll_24 : decode cX8_depthAll 24 = .ok (.iconst 1, 1) := by decide +kernel
theorem dX8_depthAll_25 : decode cX8_depthAll 25 = .ok (.goto 4, 3) := by decide +kernel
theorem dX8_depthAll_28 : decode cX8_depthAll 28 = .ok (.iconst 0, 1) := by decide +kernel
theorem dX8_depthAll_29 : decode cX8_depthAll 29 = .ok (.istore_n 3, 1) := by decide +kernel
theorem dX8_depthAll_30 : decode cX8_depthAll 30 = .ok (.iconst 0, 1) := by decide +kernel
theorem dX8_depthAll_31 : decode cX8_depthAll 31 = .ok (.istore 4, 2) := by decide +kernel
theorem dX8_depthAll_33 : decode cX8_depthAll 33 = .ok (.iload 4, 2) := by decide +kernel
theorem dX8_depthAll_35 : decode cX8_depthAll 35 = .ok (.iload_n 2, 1) := by decide +kernel
theorem dX8_depthAll_36 : decode cX8_depthAll 36 = .ok (.if_icmp .ge 50, 3) := by decide +kernel
theorem dX8_depthAll_39 : decode cX8_depthAll 39 = .ok (.iload_n 3, 1) := by decide +kernel
theorem dX8_depthAll_40 : decode cX8_depthAll 40 = .ok (.aload_n 0, 1) := by decide +kernel
theorem dX8_depthAll_41 : decode cX8_depthAll 41 = .ok (.iload_n 2, 1) := by decide +kernel
theorem dX8_depthAll_42 : decode cX8_depthAll 42 = .ok (.iconst 0, 1) := by decide +kernel
theorem dX8_depthAll_43 : decode cX8_depthAll 43 = .ok (.invokevirtual 124, 3) := by decide +kernel
theorem dX8_depthAll_46 : decode cX8_depthAll 46 = .ok (.iconst 3, 1) := by decide +kernel
theorem dX8_depthAll_47 : decode cX8_depthAll 47 = .ok (.if_icmp .lt 30, 3) := by decide +kernel
theorem dX8_depthAll_50 : decode cX8_depthAll 50 = .ok (.aload_n 0, 1) := by decide +kernel
theorem dX8_depthAll_51 : decode cX8_depthAll 51 = .ok (.iload 4, 2) := by decide +kernel
theorem dX8_depthAll_53 : decode cX8_depthAll 53 = .ok (.iconst 0, 1) := by decide +kernel
theorem dX8_depthAll_54 : decode cX8_depthAll 54 = .ok (.invokevirtual 124, 3) := by decide +kernel
theorem dX8_depthAll_57 : decode cX8_depthAll 57 = .ok (.iconst 3, 1) := by decide +kernel
theorem dX8_depthAll_58 : decode cX8_depthAll 58 = .ok (.if_icmp .lt 19, 3) := by decide +kernel
theorem dX8_depthAll_61 : decode cX8_depthAll 61 = .ok (.aload_n 0, 1) := by decide +kernel
theorem dX8_depthAll_62 : decode cX8_depthAll 62 = .ok (.iload 4, 2) := by decide +kernel
theorem dX8_depthAll_64 : decode cX8_depthAll 64 = .ok (.bipush 6, 2) := by decide +kernel
theorem dX8_depthAll_66 : decode cX8_depthAll 66 = .ok (.invokevirtual 124, 3) := by decide +kernel
theorem dX8_depthAll_69 : decode cX8_depthAll 69 = .ok (.iload_n 2, 1) := by decide +kernel
theorem dX8_depthAll_70 : decode cX8_depthAll 70 = .ok (.if_icmp .le 7, 3) := by decide +kernel
theorem dX8_depthAll_73 : decode cX8_depthAll 73 = .ok (.iconst 1, 1) := by decide +kernel
theorem dX8_depthAll_74 : decode cX8_depthAll 74 = .ok (.goto 4, 3) := by decide +kernel
theorem dX8_depthAll_77 : decode cX8_depthAll 77 = .ok (.iconst 0, 1) := by decide +kernel
theorem dX8_depthAll_78 : decode cX8_depthAll 78 = .ok (.iadd, 1) := by decide +kernel
theorem dX8_depthAll_79 : decode cX8_depthAll 79 = .ok (.istore_n 3, 1) := by decide +kernel
theorem dX8_depthAll_80 : decode cX8_depthAll 80 = .ok (.iinc 4 1, 3) := by decide +kernel
theorem dX8_depthAll_83 : decode cX8_depthAll 83 = .ok (.goto (-50), 3) := by decide +kernel
theorem dX8_depthAll_86 : decode cX8_depthAll 86 = .ok (.iload_n 3, 1) := by decide +kernel
theorem dX8_depthAll_87 : decode cX8_depthAll 87 = .ok (.iload_n 1, 1) := by decide +kernel
theorem dX8_depthAll_88 : decode cX8_depthAll 88 = .ok (.if_icmp .le 7, 3) := by decide +kernel
theorem dX8_depthAll_91 : decode cX8_depthAll 91 = .ok (.iload_n 3, 1) := by decide +kernel
theorem dX8_depthAll_92 : decode cX8_depthAll 92 = .ok (.goto 4, 3) := by decide +kernel
theorem dX8_depthAll_95 : decode cX8_depthAll 95 = .ok (.iload_n 1, 1) := by decide +kernel
theorem dX8_depthAll_96 : decode cX8_depthAll 96 = .ok (.istore_n 1, 1) := by decide +kernel
theorem dX8_depthAll_97 : decode cX8_depthAll 97 = .ok (.iinc 2 1, 3) := by decide +kernel
theorem dX8_depthAll_100 : decode cX8_depthAll 100 = .ok (.goto (-96), 3) := by decide +kernel
theorem dX8_depthAll_103 : decode cX8_depthAll 103 = .ok (.iload_n 1, 1) := by decide +kernel
theorem dX8_depthAll_104 : decode cX8_depthAll 104 = .ok (.ireturn, 1) := by decide +kernel
theorem dX8_canSet_0 : decode cX8_canSet 0 = .ok (.iconst 0, 1) := by decide +kernel
theorem dX8_canSet_1 : decode cX8_canSet 1 = .ok (.istore_n 1, 1) := by decide +kernel
theorem dX8_canSet_2 : decode cX8_canSet 2 = .ok (.iconst 0, 1) := by decide +kernel
theorem dX8_canSet_3 : decode cX8_canSet 3 = .ok (.istore_n 2, 1) := by decide +kernel
theorem dX8_canSet_4 : decode cX8_canSet 4 = .ok (.iload_n 2, 1) := by decide +kernel
theorem dX8_canSet_5 : decode cX8_canSet 5 = .ok (.aload_n 0, 1) := by decide +kernel
theorem dX8_canSet_6 : decode cX8_canSet 6 = .ok (.getfield 19, 3) := by decide +kernel
theorem dX8_canSet_9 : decode cX8_canSet 9 = .ok (.iconst 0, 1) := by decide +kernel
theorem dX8_canSet_10 : decode cX8_canSet 10 = .ok (.iaload, 1) := by decide +kernel
theorem dX8_canSet_11 : decode cX8_canSet 11 = .ok (.if_icmp .ge 33, 3) := by decide +kernel
theorem dX8_canSet_14 : decode cX8_canSet 14 = .ok (.iload_n 1, 1) := by decide +kernel
theorem dX8_canSet_15 : decode cX8_canSet 15 = .ok (.aload_n 0, 1) := by decide +kernel
theorem dX8_canSet_16 : decode cX8_canSet 16 = .ok (.iload_n 2, 1) := by decide +kernel
theorem dX8_canSet_17 : decode cX8_canSet 17 = .ok (.iconst 0, 1) := by decide +kernel
theorem dX8_canSet_18 : decode cX8_canSet 18 = .ok (.invokevirtual 124, 3) := by decide +kernel
theorem dX8_canSet_21 : decode cX8_canSet 21 = .ok (.ifCond .ne 14, 3) := by decide +kernel
theorem dX8_canSet_24 : decode cX8_canSet 24 = .ok (.iconst 1, 1) := by decide +kernel
theorem dX8_canSet_25 : decode cX8_canSet 25 = .ok (.aload_n 0, 1) := by decide +kernel
theorem dX8_canSet_26 : decode cX8_canSet 26 = .ok (.iload_n 2, 1) := by decide +kernel
theorem dX8_canSet_27 : decode cX8_canSet 27 = .ok (.iconst 1, 1) := by decide +kernel
theorem dX8_canSet_28 : decode cX8_canSet 28 = .ok (.invokevirtual 124, 3) := by decide +kernel
theorem dX8_canSet_31 : decode cX8_canSet 31 = .ok (.ishl, 1) := by decide +kernel
theorem dX8_canSet_32 : decode cX8_canSet 32 = .ok (.goto 4, 3) := by decide +kernel
theorem dX8_canSet_35 : decode cX8_canSet 35 = .ok (.iconst 0, 1) := by decide +kernel
theorem dX8_canSet_36 : decode cX8_canSet 36 = .ok (.ior, 1) := by decide +kernel
theorem dX8_canSet_37 : decode cX8_canSet 37 = .ok (.istore_n 1, 1) := by decide +kernel
theorem dX8_canSet_38 : decode cX8_canSet 38 = .ok (.iinc 2 1, 3) := by decide +kernel
theorem dX8_canSet_41 : decode cX8_canSet 41 = .ok (.goto (-37), 3) := by decide +kernel
theorem dX8_canSet_44 : decode cX8_canSet 44 = .ok (.iload_n 1, 1) := by decide +kernel
theorem dX8_canSet_45 : decode cX8_canSet 45 = .ok (.ireturn, 1) := by decide +kernel
theorem dX8_program_0 : decode cX8_program 0 = .ok (.iload_n 1, 1) := by decide +kernel
theorem dX8_program_1 : decode cX8_program 1 = .ok (.invokestatic 107, 3) := by decide +kernel
theorem dX8_program_4 : decode cX8_program 4 = .ok (.ifCond .eq 13, 3) := by decide +kernel
theorem dX8_program_7 : decode cX8_program 7 = .ok (.iload_n 2, 1) := by decide +kernel
theorem dX8_program_8 : decode cX8_program 8 = .ok (.iconst 0, 1) := by decide +kernel
theorem dX8_program_9 : decode cX8_program 9 = .ok (.bipush 7, 2) := by decide +kernel
theorem dX8_program_11 : decode cX8_program 11 = .ok (.invokestatic 61, 3) := by decide +kernel
theorem dX8_program_14 : decode cX8_program 14 = .ok (.ifCond .ne 7, 3) := by decide +kernel
theorem dX8_program_17 : decode cX8_program 17 = .ok (.sipush (-10001), 3) := by decide +kernel
theorem dX8_program_20 : decode cX8_program 20 = .ok (.ireturn, 1) := by decide +kernel
theorem dX8_program_21 : decode cX8_program 21 = .ok (.aload_n 0, 1) := by decide +kernel
theorem dX8_program_22 : decode cX8_program 22 = .ok (.iload_n 1, 1) := by decide +kernel
theorem dX8_program_23 : decode cX8_program 23 = .ok (.invokevirtual 121, 3) := by decide +kernel
theorem dX8_program_26 : decode cX8_program 26 = .ok (.iload_n 2, 1) := by decide +kernel
theorem dX8_program_27 : decode cX8_program 27 = .ok (.ifCond .ne 12, 3) := by decide +kernel
theorem dX8_program_30 : decode cX8_program 30 = .ok (.aload_n 0, 1) := by decide +kernel
theorem dX8_program_31 : decode cX8_program 31 = .ok (.getfield 19, 3) := by decide +kernel
theorem dX8_program_34 : decode cX8_program 34 = .ok (.iconst 0, 1) := by decide +kernel
theorem dX8_program_35 : decode cX8_program 35 = .ok (.iaload, 1) := by decide +kernel
theorem dX8_program_36 : decode cX8_program 36 = .ok (.goto 36, 3) := by decide +kernel
theorem dX8_program_39 : decode cX8_program 39 = .ok (.iload_n 2, 1) := by decide +kernel
theorem dX8_program_40 : decode cX8_program 40 = .ok (.bipush 6, 2) := by decide +kernel
theorem dX8_program_42 : decode cX8_program 42 = .ok (.if_icmp .ne 10, 3) := by decide +kernel
theorem dX8_program_45 : decode cX8_program 45 = .ok (.aload_n 0, 1) := by decide +kernel
theorem dX8_program_46 : decode cX8_program 46 = .ok (.invokevirtual 137, 3) := by decide +kernel
theorem dX8_program_49 : decode cX8_program 49 = .ok (.goto 23, 3) := by decide +kernel
theorem dX8_program_52 : decode cX8_program 52 = .ok (.iload_n 2, 1) := by decide +kernel
theorem dX8_program_53 : decode cX8_program 53 = .ok (.bipush 7, 2) := by decide +kernel
theorem dX8_program_55 : decode cX8_program 55 = .ok (.if_icmp .ne 10, 3) := by decide +kernel
theorem dX8_program_58 : decode cX8_program 58 = .ok (.aload_n 0, 1) := by decide +kernel
theorem dX8_program_59 : decode cX8_program 59 = .ok (.invokevirtual 140, 3) := by decide +kernel
theorem dX8_program_62 : decode cX8_program 62 = .ok (.goto 10, 3) := by decide +kernel
theorem dX8_program_65 : decode cX8_program 65 = .ok (.aload_n 0, 1) := by decide +kernel
theorem dX8_program_66 : decode cX8_program 66 = .ok (.iload_n 2, 1) := by decide +kernel
theorem dX8_program_67 : decode cX8_program 67 = .ok (.iconst 1, 1) := by decide +kernel
theorem dX8_program_68 : decode cX8_program 68 = .ok (.isub, 1) := by decide +kernel
theorem dX8_program_69 : decode cX8_program 69 = .ok (.invokevirtual 143, 3) := by decide +kernel
theorem dX8_program_72 : decode cX8_program 72 = .ok (.ireturn, 1) := by decide +kernel
theorem dX8_term_0 : decode cX8_term 0 = .ok (.iload_n 2, 1) := by decide +kernel
theorem dX8_term_1 : decode cX8_term 1 = .ok (.bipush 10, 2) := by decide +kernel
theorem dX8_term_3 : decode cX8_term 3 = .ok (.if_icmp .ge 17, 3) := by decide +kernel
theorem dX8_term_6 : decode cX8_term 6 = .ok (.aload_n 0, 1) := by decide +kernel
theorem dX8_term_7 : decode cX8_term 7 = .ok (.getfield 28, 3) := by decide +kernel
theorem dX8_term_10 : decode cX8_term 10 = .ok (.bipush 6, 2) := by decide +kernel
theorem dX8_term_12 : decode cX8_term 12 = .ok (.iload_n 1, 1) := by decide +kernel
theorem dX8_term_13 : decode cX8_term 13 = .ok (.imul, 1) := by decide +kernel
theorem dX8_term_14 : decode cX8_term 14 = .ok (.iload_n 2, 1) := by decide +kernel
theorem dX8_term_15 : decode cX8_term 15 = .ok (.iadd, 1) := by decide +kernel
theorem dX8_term_16 : decode cX8_term 16 = .ok (.iaload, 1) := by decide +kernel
theorem dX8_term_17 : decode cX8_term 17 = .ok (.goto 7, 3) := by decide +kernel
theorem dX8_term_20 : decode cX8_term 20 = .ok (.iload_n 2, 1) := by decide +kernel
theorem dX8_term_21 : decode cX8_term 21 = .ok (.bipush 10, 2) := by decide +kernel
theorem dX8_term_23 : decode cX8_term 23 = .ok (.isub, 1) := by decide +kernel
theorem dX8_term_24 : decode cX8_term 24 = .ok (.ireturn, 1) := by decide +kernel
theorem dX8_held_0 : decode cX8_held 0 = .ok (.iload_n 0, 1) := by decide +kernel
theorem dX8_held_1 : decode cX8_held 1 = .ok (.sipush (-999), 3) := by decide +kernel
theorem dX8_held_4 : decode cX8_held 4 = .ok (.if_icmp .ge 9, 3) := by decide +kernel
theorem dX8_held_7 : decode cX8_held 7 = .ok (.sipush (-999), 3) := by decide +kernel
theorem dX8_held_10 : decode cX8_held 10 = .ok (.goto 17, 3) := by decide +kernel
theorem dX8_held_13 : decode cX8_held 13 = .ok (.iload_n 0, 1) := by decide +kernel
theorem dX8_held_14 : decode cX8_held 14 = .ok (.sipush 999, 3) := by decide +kernel
theorem dX8_held_17 : decode cX8_held 17 = .ok (.if_icmp .le 9, 3) := by decide +kernel
theorem dX8_held_20 : decode cX8_held 20 = .ok (.sipush 999, 3) := by decide +kernel
theorem dX8_held_23 : decode cX8_held 23 = .ok (.goto 4, 3) := by decide +kernel
theorem dX8_held_26 : decode cX8_held 26 = .ok (.iload_n 0, 1) := by decide +kernel
theorem dX8_held_27 : decode cX8_held 27 = .ok (.ireturn, 1) := by decide +kernel
theorem dX8_sets_0 : decode cX8_sets 0 = .ok (.aload_n 0, 1) := by decide +kernel
theorem dX8_sets_1 : decode cX8_sets 1 = .ok (.iload_n 1, 1) := by decide +kernel
theorem dX8_sets_2 : decode cX8_sets 2 = .ok (.aload_n 0, 1) := by decide +kernel
theorem dX8_sets_3 : decode cX8_sets 3 = .ok (.iload_n 2, 1) := by decide +kernel
theorem dX8_sets_4 : decode cX8_sets 4 = .ok (.iconst 3, 1) := by decide +kernel
theorem dX8_sets_5 : decode cX8_sets 5 = .ok (.invokevirtual 124, 3) := by decide +kernel
theorem dX8_sets_8 : decode cX8_sets 8 = .ok (.invokevirtual 146, 3) := by decide +kernel
theorem dX8_sets_11 : decode cX8_sets 11 = .ok (.istore_n 3, 1) := by decide +kernel
theorem dX8_sets_12 : decode cX8_sets 12 = .ok (.aload_n 0, 1) := by decide +kernel
theorem dX8_sets_13 : decode cX8_sets 13 = .ok (.iload_n 2, 1) := by decide +kernel
theorem dX8_sets_14 : decode cX8_sets 14 = .ok (.iconst 2, 1) := by decide +kernel
theorem dX8_sets_15 : decode cX8_sets 15 = .ok (.invokevirtual 124, 3) := by decide +kernel
theorem dX8_sets_18 : decode cX8_sets 18 = .ok (.istore 4, 2) := by decide +kernel
theorem dX8_sets_20 : decode cX8_sets 20 = .ok (.iload 4, 2) := by decide +kernel
theorem dX8_sets_22 : decode cX8_sets 22 = .ok (.ifCond .ne 7, 3) := by decide +kernel
theorem dX8_sets_25 : decode cX8_sets 25 = .ok (.iconst 0, 1) := by decide +kernel
theorem dX8_sets_26 : decode cX8_sets 26 = .ok (.goto 14, 3) := by decide +kernel
theorem dX8_sets_29 : decode cX8_sets 29 = .ok (.aload_n 0, 1) := by decide +kernel
theorem dX8_sets_30 : decode cX8_sets 30 = .ok (.iload_n 1, 1) := by decide +kernel
theorem dX8_sets_31 : decode cX8_sets 31 = .ok (.aload_n 0, 1) := by decide +kernel
theorem dX8_sets_32 : decode cX8_sets 32 = .ok (.iload_n 2, 1) := by decide +kernel
theorem dX8_sets_33 : decode cX8_sets 33 = .ok (.iconst 4, 1) := by decide +kernel
theorem dX8_sets_34 : decode cX8_sets 34 = .ok (.invokevirtual 124, 3) := by decide +kernel
theorem dX8_sets_37 : decode cX8_sets 37 = .ok (.invokevirtual 146, 3) := by decide +kernel
theorem dX8_sets_40 : decode cX8_sets 40 = .ok (.istore 5, 2) := by decide +kernel
theorem dX8_sets_42 : decode cX8_sets 42 = .ok (.iload 4, 2) := by decide +kernel
theorem dX8_sets_44 : decode cX8_sets 44 = .ok (.ifCond .ne 7, 3) := by decide +kernel
theorem dX8_sets_47 : decode cX8_sets 47 = .ok (.iload_n 3, 1) := by decide +kernel
theorem dX8_sets_48 : decode cX8_sets 48 = .ok (.goto 35, 3) := by decide +kernel
theorem dX8_sets_51 : decode cX8_sets 51 = .ok (.iload 4, 2) := by decide +kernel
theorem dX8_sets_53 : decode cX8_sets 53 = .ok (.bipush 43, 2) := by decide +kernel
theorem dX8_sets_55 : decode cX8_sets 55 = .ok (.if_icmp .ne 10, 3) := by decide +kernel
theorem dX8_sets_58 : decode cX8_sets 58 = .ok (.iload_n 3, 1) := by decide +kernel
theorem dX8_sets_59 : decode cX8_sets 59 = .ok (.iload 5, 2) := by decide +kernel
theorem dX8_sets_61 : decode cX8_sets 61 = .ok (.iadd, 1) := by decide +kernel
theorem dX8_sets_62 : decode cX8_sets 62 = .ok (.goto 21, 3) := by decide +kernel
theorem dX8_sets_65 : decode cX8_sets 65 = .ok (.iload 4, 2) := by decide +kernel
theorem dX8_sets_67 : decode cX8_sets 67 = .ok (.bipush 45, 2) := by decide +kernel
theorem dX8_sets_69 : decode cX8_sets 69 = .ok (.if_icmp .ne 10, 3) := by decide +kernel
theorem dX8_sets_72 : decode cX8_sets 72 = .ok (.iload_n 3, 1) := by decide +kernel
theorem dX8_sets_73 : decode cX8_sets 73 = .ok (.iload 5, 2) := by decide +kernel
theorem dX8_sets_75 : decode cX8_sets 75 = .ok (.isub, 1) := by decide +kernel
theorem dX8_sets_76 : decode cX8_sets 76 = .ok (.goto 7, 3) := by decide +kernel
theorem dX8_sets_79 : decode cX8_sets 79 = .ok (.iload_n 3, 1) := by decide +kernel
theorem dX8_sets_80 : decode cX8_sets 80 = .ok (.iload 5, 2) := by decide +kernel
theorem dX8_sets_82 : decode cX8_sets 82 = .ok (.imul, 1) := by decide +kernel
theorem dX8_sets_83 : decode cX8_sets 83 = .ok (.istore 6, 2) := by decide +kernel
theorem dX8_sets_85 : decode cX8_sets 85 = .ok (.aload_n 0, 1) := by decide +kernel
theorem dX8_sets_86 : decode cX8_sets 86 = .ok (.getfield 28, 3) := by decide +kernel
theorem dX8_sets_89 : decode cX8_sets 89 = .ok (.bipush 6, 2) := by decide +kernel
theorem dX8_sets_91 : decode cX8_sets 91 = .ok (.iload_n 1, 1) := by decide +kernel
theorem dX8_sets_92 : decode cX8_sets 92 = .ok (.imul, 1) := by decide +kernel
theorem dX8_sets_93 : decode cX8_sets 93 = .ok (.aload_n 0, 1) := by decide +kernel
theorem dX8_sets_94 : decode cX8_sets 94 = .ok (.iload_n 2, 1) := by decide +kernel
theorem dX8_sets_95 : decode cX8_sets 95 = .ok (.iconst 1, 1) := by decide +kernel
theorem dX8_sets_96 : decode cX8_sets 96 = .ok (.invokevirtual 124, 3) := by decide +kernel
theorem dX8_sets_99 : decode cX8_sets 99 = .ok (.iadd, 1) := by decide +kernel
theorem dX8_sets_100 : decode cX8_sets 100 = .ok (.iload 6, 2) := by decide +kernel
theorem dX8_sets_102 : decode cX8_sets 102 = .ok (.invokestatic 149, 3) := by decide +kernel
theorem dX8_sets_105 : decode cX8_sets 105 = .ok (.iastore, 1) := by decide +kernel
theorem dX8_sets_106 : decode cX8_sets 106 = .ok (.return_, 1) := by decide +kernel
theorem dX8_tellsCell_0 : decode cX8_tellsCell 0 = .ok (.aload_n 0, 1) := by decide +kernel
theorem dX8_tellsCell_1 : decode cX8_tellsCell 1 = .ok (.getfield 40, 3) := by decide +kernel
theorem dX8_tellsCell_4 : decode cX8_tellsCell 4 = .ok (.bipush 6, 2) := by decide +kernel
theorem dX8_tellsCell_6 : decode cX8_tellsCell 6 = .ok (.iload_n 1, 1) := by decide +kernel
theorem dX8_tellsCell_7 : decode cX8_tellsCell 7 = .ok (.imul, 1) := by decide +kernel
theorem dX8_tellsCell_8 : decode cX8_tellsCell 8 = .ok (.iconst 2, 1) := by decide +kernel
theorem dX8_tellsCell_9 : decode cX8_tellsCell 9 = .ok (.iadd, 1) := by decide +kernel
theorem dX8_tellsCell_10 : decode cX8_tellsCell 10 = .ok (.iaload, 1) := by decide +kernel
theorem dX8_tellsCell_11 : decode cX8_tellsCell 11 = .ok (.istore_n 3, 1) := by decide +kernel
theorem dX8_tellsCell_12 : decode cX8_tellsCell 12 = .ok (.iload_n 3, 1) := by decide +kernel
theorem dX8_tellsCell_13 : decode cX8_tellsCell 13 = .ok (.bipush 40, 2) := by decide +kernel
theorem dX8_tellsCell_15 : decode cX8_tellsCell 15 = .ok (.if_icmp .ge 30, 3) := by decide +kernel
theorem dX8_tellsCell_18 : decode cX8_tellsCell 18 = .ok (.aload_n 0, 1) := by decide +kernel
theorem dX8_tellsCell_19 : decode cX8_tellsCell 19 = .ok (.getfield 31, 3) := by decide +kernel
theorem dX8_tellsCell_22 : decode cX8_tellsCell 22 = .ok (.bipush 40, 2) := by decide +kernel
theorem dX8_tellsCell_24 : decode cX8_tellsCell 24 = .ok (.iload_n 1, 1) := by decide +kernel
theorem dX8_tellsCell_25 : decode cX8_tellsCell 25 = .ok (.imul, 1) := by decide +kernel
theorem dX8_tellsCell_26 : decode cX8_tellsCell 26 = .ok (.iload_n 3, 1) := by decide +kernel
theorem dX8_tellsCell_27 : decode cX8_tellsCell 27 = .ok (.iadd, 1) := by decide +kernel
theorem dX8_tellsCell_28 : decode cX8_tellsCell 28 = .ok (.aload_n 0, 1) := by decide +kernel
theorem dX8_tellsCell_29 : decode cX8_tellsCell 29 = .ok (.getfield 28, 3) := by decide +kernel
theorem dX8_tellsCell_32 : decode cX8_tellsCell 32 = .ok (.bipush 6, 2) := by decide +kernel
theorem dX8_tellsCell_34 : decode cX8_tellsCell 34 = .ok (.iload_n 1, 1) := by decide +kernel
theorem dX8_tellsCell_35 : decode cX8_tellsCell 35 = .ok (.imul, 1) := by decide +kernel
theorem dX8_tellsCell_36 : decode cX8_tellsCell 36 = .ok (.aload_n 0, 1) := by decide +kernel
theorem dX8_tellsCell_37 : decode cX8_tellsCell 37 = .ok (.iload_n 2, 1) := by decide +kernel
theorem dX8_tellsCell_38 : decode cX8_tellsCell 38 = .ok (.iconst 1, 1) := by decide +kernel
theorem dX8_tellsCell_39 : decode cX8_tellsCell 39 = .ok (.invokevirtual 124, 3) := by decide +kernel
theorem dX8_tellsCell_42 : decode cX8_tellsCell 42 = .ok (.iadd, 1) := by decide +kernel
theorem dX8_tellsCell_43 : decode cX8_tellsCell 43 = .ok (.iaload, 1) := by decide +kernel
theorem dX8_tellsCell_44 : decode cX8_tellsCell 44 = .ok (.iastore, 1) := by decide +kernel
theorem dX8_tellsCell_45 : decode cX8_tellsCell 45 = .ok (.aload_n 0, 1) := by decide +kernel
theorem dX8_tellsCell_46 : decode cX8_tellsCell 46 = .ok (.getfield 40, 3) := by decide +kernel
theorem dX8_tellsCell_49 : decode cX8_tellsCell 49 = .ok (.bipush 6, 2) := by decide +kernel
theorem dX8_tellsCell_51 : decode cX8_tellsCell 51 = .ok (.iload_n 1, 1) := by decide +kernel
theorem dX8_tellsCell_52 : decode cX8_tellsCell 52 = .ok (.imul, 1) := by decide +kernel
theorem dX8_tellsCell_53 : decode cX8_tellsCell 53 = .ok (.iconst 2, 1) := by decide +kernel
theorem dX8_tellsCell_54 : decode cX8_tellsCell 54 = .ok (.iadd, 1) := by decide +kernel
theorem dX8_tellsCell_55 : decode cX8_tellsCell 55 = .ok (.dup2, 1) := by decide +kernel
theorem dX8_tellsCell_56 : decode cX8_tellsCell 56 = .ok (.iaload, 1) := by decide +kernel
theorem dX8_tellsCell_57 : decode cX8_tellsCell 57 = .ok (.iconst 1, 1) := by decide +kernel
theorem dX8_tellsCell_58 : decode cX8_tellsCell 58 = .ok (.iadd, 1) := by decide +kernel
theorem dX8_tellsCell_59 : decode cX8_tellsCell 59 = .ok (.iastore, 1) := by decide +kernel
theorem dX8_tellsCell_60 : decode cX8_tellsCell 60 = .ok (.return_, 1) := by decide +kernel
theorem dX8_marks_0 : decode cX8_marks 0 = .ok (.aload_n 0, 1) := by decide +kernel
theorem dX8_marks_1 : decode cX8_marks 1 = .ok (.getfield 40, 3) := by decide +kernel
theorem dX8_marks_4 : decode cX8_marks 4 = .ok (.bipush 6, 2) := by decide +kernel
theorem dX8_marks_6 : decode cX8_marks 6 = .ok (.iload_n 1, 1) := by decide +kernel
theorem dX8_marks_7 : decode cX8_marks 7 = .ok (.imul, 1) := by decide +kernel
theorem dX8_marks_8 : decode cX8_marks 8 = .ok (.iconst 3, 1) := by decide +kernel
theorem dX8_marks_9 : decode cX8_marks 9 = .ok (.iadd, 1) := by decide +kernel
theorem dX8_marks_10 : decode cX8_marks 10 = .ok (.iaload, 1) := by decide +kernel
theorem dX8_marks_11 : decode cX8_marks 11 = .ok (.istore_n 2, 1) := by decide +kernel
theorem dX8_marks_12 : decode cX8_marks 12 = .ok (.iload_n 2, 1) := by decide +kernel
theorem dX8_marks_13 : decode cX8_marks 13 = .ok (.bipush 40, 2) := by decide +kernel
theorem dX8_marks_15 : decode cX8_marks 15 = .ok (.if_icmp .ge 67, 3) := by decide +kernel
theorem dX8_marks_18 : decode cX8_marks 18 = .ok (.aload_n 0, 1) := by decide +kernel
theorem dX8_marks_19 : decode cX8_marks 19 = .ok (.getfield 34, 3) := by decide +kernel
theorem dX8_marks_22 : decode cX8_marks 22 = .ok (.bipush 40, 2) := by decide +kernel
theorem dX8_marks_24 : decode cX8_marks 24 = .ok (.iload_n 1, 1) := by decide +kernel
theorem dX8_marks_25 : decode cX8_marks 25 = .ok (.imul, 1) := by decide +kernel
theorem dX8_marks_26 : decode cX8_marks 26 = .ok (.iload_n 2, 1) := by decide +kernel
theorem dX8_marks_27 : decode cX8_marks 27 = .ok (.iadd, 1) := by decide +kernel
theorem dX8_marks_28 : decode cX8_marks 28 = .ok (.aload_n 0, 1) := by decide +kernel
theorem dX8_marks_29 : decode cX8_marks 29 = .ok (.getfield 40, 3) := by decide +kernel
theorem dX8_marks_32 : decode cX8_marks 32 = .ok (.bipush 6, 2) := by decide +kernel
theorem dX8_marks_34 : decode cX8_marks 34 = .ok (.iload_n 1, 1) := by decide +kernel
theorem dX8_marks_35 : decode cX8_marks 35 = .ok (.imul, 1) := by decide +kernel
theorem dX8_marks_36 : decode cX8_marks 36 = .ok (.iaload, 1) := by decide +kernel
theorem dX8_marks_37 : decode cX8_marks 37 = .ok (.iconst 1, 1) := by decide +kernel
theorem dX8_marks_38 : decode cX8_marks 38 = .ok (.isub, 1) := by decide +kernel
theorem dX8_marks_39 : decode cX8_marks 39 = .ok (.iastore, 1) := by decide +kernel
theorem dX8_marks_40 : decode cX8_marks 40 = .ok (.iconst 0, 1) := by decide +kernel
theorem dX8_marks_41 : decode cX8_marks 41 = .ok (.istore_n 3, 1) := by decide +kernel
theorem dX8_marks_42 : decode cX8_marks 42 = .ok (.iload_n 3, 1) := by decide +kernel
theorem dX8_marks_43 : decode cX8_marks 43 = .ok (.bipush 6, 2) := by decide +kernel
theorem dX8_marks_45 : decode cX8_marks 45 = .ok (.if_icmp .ge 37, 3) := by decide +kernel
theorem dX8_marks_48 : decode cX8_marks 48 = .ok (.aload_n 0, 1) := by decide +kernel
theorem dX8_marks_49 : decode cX8_marks 49 = .ok (.getfield 37, 3) := by decide +kernel
theorem dX8_marks_52 : decode cX8_marks 52 = .ok (.sipush 240, 3) := by decide +kernel
theorem dX8_marks_55 : decode cX8_marks 55 = .ok (.iload_n 1, 1) := by decide +kernel
theorem dX8_marks_56 : decode cX8_marks 56 = .ok (.imul, 1) := by decide +kernel
theorem dX8_marks_57 : decode cX8_marks 57 = .ok (.bipush 6, 2) := by decide +kernel
theorem dX8_marks_59 : decode cX8_marks 59 = .ok (.iload_n 2, 1) := by decide +kernel
theorem dX8_marks_60 : decode cX8_marks 60 = .ok (.imul, 1) := by decide +kernel
theorem dX8_marks_61 : decode cX8_marks 61 = .ok (.iadd, 1) := by decide +kernel
theorem dX8_marks_62 : decode cX8_marks 62 = .ok (.iload_n 3, 1) := by decide +kernel
theorem dX8_marks_63 : decode cX8_marks 63 = .ok (.iadd, 1) := by decide +kernel
theorem dX8_marks_64 : decode cX8_marks 64 = .ok (.aload_n 0, 1) := by decide +kernel
theorem dX8_marks_65 : decode cX8_marks 65 = .ok (.getfield 28, 3) := by decide +kernel
theorem dX8_marks_68 : decode cX8_marks 68 = .ok (.bipush 6, 2) := by decide +kernel
theorem dX8_marks_70 : decode cX8_marks 70 = .ok (.iload_n 1, 1) := by decide +kernel
theorem dX8_marks_71 : decode cX8_marks 71 = .ok (.imul, 1) := by decide +kernel
theorem dX8_marks_72 : decode cX8_marks 72 = .ok (.iload_n 3, 1) := by decide +kernel
theorem dX8_marks_73 : decode cX8_marks 73 = .ok (.iadd, 1) := by decide +kernel
theorem dX8_marks_74 : decode cX8_marks 74 = .ok (.iaload, 1) := by decide +kernel
theorem dX8_marks_75 : decode cX8_marks 75 = .ok (.iastore, 1) := by decide +kernel
theorem dX8_marks_76 : decode cX8_marks 76 = .ok (.iinc 3 1, 3) := by decide +kernel
theorem dX8_marks_79 : decode cX8_marks 79 = .ok (.goto (-37), 3) := by decide +kernel
theorem dX8_marks_82 : decode cX8_marks 82 = .ok (.aload_n 0, 1) := by decide +kernel
theorem dX8_marks_83 : decode cX8_marks 83 = .ok (.getfield 40, 3) := by decide +kernel
theorem dX8_marks_86 : decode cX8_marks 86 = .ok (.bipush 6, 2) := by decide +kernel
theorem dX8_marks_88 : decode cX8_marks 88 = .ok (.iload_n 1, 1) := by decide +kernel
theorem dX8_marks_89 : decode cX8_marks 89 = .ok (.imul, 1) := by decide +kernel
theorem dX8_marks_90 : decode cX8_marks 90 = .ok (.iconst 3, 1) := by decide +kernel
theorem dX8_marks_91 : decode cX8_marks 91 = .ok (.iadd, 1) := by decide +kernel
theorem dX8_marks_92 : decode cX8_marks 92 = .ok (.dup2, 1) := by decide +kernel
theorem dX8_marks_93 : decode cX8_marks 93 = .ok (.iaload, 1) := by decide +kernel
theorem dX8_marks_94 : decode cX8_marks 94 = .ok (.iconst 1, 1) := by decide +kernel
theorem dX8_marks_95 : decode cX8_marks 95 = .ok (.iadd, 1) := by decide +kernel
theorem dX8_marks_96 : decode cX8_marks 96 = .ok (.iastore, 1) := by decide +kernel
theorem dX8_marks_97 : decode cX8_marks 97 = .ok (.return_, 1) := by decide +kernel
theorem dX8_roundOf_0 : decode cX8_roundOf 0 = .ok (.aload_n 0, 1) := by decide +kernel
theorem dX8_roundOf_1 : decode cX8_roundOf 1 = .ok (.getfield 49, 3) := by decide +kernel
theorem dX8_roundOf_4 : decode cX8_roundOf 4 = .ok (.iload_n 2, 1) := by decide +kernel
theorem dX8_roundOf_5 : decode cX8_roundOf 5 = .ok (.dup2, 1) := by decide +kernel
theorem dX8_roundOf_6 : decode cX8_roundOf 6 = .ok (.iaload, 1) := by decide +kernel
theorem dX8_roundOf_7 : decode cX8_roundOf 7 = .ok (.iconst 1, 1) := by decide +kernel
theorem dX8_roundOf_8 : decode cX8_roundOf 8 = .ok (.iadd, 1) := by decide +kernel
theorem dX8_roundOf_9 : decode cX8_roundOf 9 = .ok (.iastore, 1) := by decide +kernel
theorem dX8_roundOf_10 : decode cX8_roundOf 10 = .ok (.aload_n 0, 1) := by decide +kernel
theorem dX8_roundOf_11 : decode cX8_roundOf 11 = .ok (.getfield 40, 3) := by decide +kernel
theorem dX8_roundOf_14 : decode cX8_roundOf 14 = .ok (.bipush 6, 2) := by decide +kernel
theorem dX8_roundOf_16 : decode cX8_roundOf 16 = .ok (.iload_n 1, 1) := by decide +kernel
theorem dX8_roundOf_17 : decode cX8_roundOf 17 = .ok (.imul, 1) := by decide +kernel
theorem dX8_roundOf_18 : decode cX8_roundOf 18 = .ok (.iconst 4, 1) := by decide +kernel
theorem dX8_roundOf_19 : decode cX8_roundOf 19 = .ok (.iadd, 1) := by decide +kernel
theorem dX8_roundOf_20 : decode cX8_roundOf 20 = .ok (.dup2, 1) := by decide +kernel
theorem dX8_roundOf_21 : decode cX8_roundOf 21 = .ok (.iaload, 1) := by decide +kernel
theorem dX8_roundOf_22 : decode cX8_roundOf 22 = .ok (.iconst 1, 1) := by decide +kernel
theorem dX8_roundOf_23 : decode cX8_roundOf 23 = .ok (.iadd, 1) := by decide +kernel
theorem dX8_roundOf_24 : decode cX8_roundOf 24 = .ok (.iastore, 1) := by decide +kernel
theorem dX8_roundOf_25 : decode cX8_roundOf 25 = .ok (.aload_n 0, 1) := by decide +kernel
theorem dX8_roundOf_26 : decode cX8_roundOf 26 = .ok (.getfield 40, 3) := by decide +kernel
theorem dX8_roundOf_29 : decode cX8_roundOf 29 = .ok (.bipush 6, 2) := by decide +kernel
theorem dX8_roundOf_31 : decode cX8_roundOf 31 = .ok (.iload_n 1, 1) := by decide +kernel
theorem dX8_roundOf_32 : decode cX8_roundOf 32 = .ok (.imul, 1) := by decide +kernel
theorem dX8_roundOf_33 : decode cX8_roundOf 33 = .ok (.iconst 5, 1) := by decide +kernel
theorem dX8_roundOf_34 : decode cX8_roundOf 34 = .ok (.iadd, 1) := by decide +kernel
theorem dX8_roundOf_35 : decode cX8_roundOf 35 = .ok (.aload_n 0, 1) := by decide +kernel
theorem dX8_roundOf_36 : decode cX8_roundOf 36 = .ok (.getfield 49, 3) := by decide +kernel
theorem dX8_roundOf_39 : decode cX8_roundOf 39 = .ok (.iload_n 2, 1) := by decide +kernel
theorem dX8_roundOf_40 : decode cX8_roundOf 40 = .ok (.iaload, 1) := by decide +kernel
theorem dX8_roundOf_41 : decode cX8_roundOf 41 = .ok (.aload_n 0, 1) := by decide +kernel
theorem dX8_roundOf_42 : decode cX8_roundOf 42 = .ok (.getfield 40, 3) := by decide +kernel
theorem dX8_roundOf_45 : decode cX8_roundOf 45 = .ok (.bipush 6, 2) := by decide +kernel
theorem dX8_roundOf_47 : decode cX8_roundOf 47 = .ok (.iload_n 1, 1) := by decide +kernel
theorem dX8_roundOf_48 : decode cX8_roundOf 48 = .ok (.imul, 1) := by decide +kernel
theorem dX8_roundOf_49 : decode cX8_roundOf 49 = .ok (.iconst 5, 1) := by decide +kernel
theorem dX8_roundOf_50 : decode cX8_roundOf 50 = .ok (.iadd, 1) := by decide +kernel
theorem dX8_roundOf_51 : decode cX8_roundOf 51 = .ok (.iaload, 1) := by decide +kernel
theorem dX8_roundOf_52 : decode cX8_roundOf 52 = .ok (.if_icmp .le 12, 3) := by decide +kernel
theorem dX8_roundOf_55 : decode cX8_roundOf 55 = .ok (.aload_n 0, 1) := by decide +kernel
theorem dX8_roundOf_56 : decode cX8_roundOf 56 = .ok (.getfield 49, 3) := by decide +kernel
theorem dX8_roundOf_59 : decode cX8_roundOf 59 = .ok (.iload_n 2, 1) := by decide +kernel
theorem dX8_roundOf_60 : decode cX8_roundOf 60 = .ok (.iaload, 1) := by decide +kernel
theorem dX8_roundOf_61 : decode cX8_roundOf 61 = .ok (.goto 14, 3) := by decide +kernel
theorem dX8_roundOf_64 : decode cX8_roundOf 64 = .ok (.aload_n 0, 1) := by decide +kernel
theorem dX8_roundOf_65 : decode cX8_roundOf 65 = .ok (.getfield 40, 3) := by decide +kernel
theorem dX8_roundOf_68 : decode cX8_roundOf 68 = .ok (.bipush 6, 2) := by decide +kernel
theorem dX8_roundOf_70 : decode cX8_roundOf 70 = .ok (.iload_n 1, 1) := by decide +kernel
theorem dX8_roundOf_71 : decode cX8_roundOf 71 = .ok (.imul, 1) := by decide +kernel
theorem dX8_roundOf_72 : decode cX8_roundOf 72 = .ok (.iconst 5, 1) := by decide +kernel
theorem dX8_roundOf_73 : decode cX8_roundOf 73 = .ok (.iadd, 1) := by decide +kernel
theorem dX8_roundOf_74 : decode cX8_roundOf 74 = .ok (.iaload, 1) := by decide +kernel
theorem dX8_roundOf_75 : decode cX8_roundOf 75 = .ok (.iastore, 1) := by decide +kernel
theorem dX8_roundOf_76 : decode cX8_roundOf 76 = .ok (.return_, 1) := by decide +kernel
theorem dX8_runs_0 : decode cX8_runs 0 = .ok (.iconst 0, 1) := by decide +kernel
theorem dX8_runs_1 : decode cX8_runs 1 = .ok (.istore 4, 2) := by decide +kernel
theorem dX8_runs_3 : decode cX8_runs 3 = .ok (.iload 4, 2) := by decide +kernel
theorem dX8_runs_5 : decode cX8_runs 5 = .ok (.bipush 6, 2) := by decide +kernel
theorem dX8_runs_7 : decode cX8_runs 7 = .ok (.if_icmp .ge 54, 3) := by decide +kernel
theorem dX8_runs_10 : decode cX8_runs 10 = .ok (.aload_n 0, 1) := by decide +kernel
theorem dX8_runs_11 : decode cX8_runs 11 = .ok (.getfield 40, 3) := by decide +kernel
theorem dX8_runs_14 : decode cX8_runs 14 = .ok (.bipush 6, 2) := by decide +kernel
theorem dX8_runs_16 : decode cX8_runs 16 = .ok (.iload_n 1, 1) := by decide +kernel
theorem dX8_runs_17 : decode cX8_runs 17 = .ok (.imul, 1) := by decide +kernel
theorem dX8_runs_18 : decode cX8_runs 18 = .ok (.iload 4, 2) := by decide +kernel
theorem dX8_runs_20 : decode cX8_runs 20 = .ok (.iadd, 1) := by decide +kernel
theorem dX8_runs_21 : decode cX8_runs 21 = .ok (.iconst 0, 1) := by decide +kernel
theorem dX8_runs_22 : decode cX8_runs 22 = .ok (.iastore, 1) := by decide +kernel
theorem dX8_runs_23 : decode cX8_runs 23 = .ok (.aload_n 0, 1) := by decide +kernel
theorem dX8_runs_24 : decode cX8_runs 24 = .ok (.getfield 28, 3) := by decide +kernel
theorem dX8_runs_27 : decode cX8_runs 27 = .ok (.bipush 6, 2) := by decide +kernel
theorem dX8_runs_29 : decode cX8_runs 29 = .ok (.iload_n 1, 1) := by decide +kernel
theorem dX8_runs_30 : decode cX8_runs 30 = .ok (.imul, 1) := by decide +kernel
theorem dX8_runs_31 : decode cX8_runs 31 = .ok (.iload 4, 2) := by decide +kernel
theorem dX8_runs_33 : decode cX8_runs 33 = .ok (.iadd, 1) := by decide +kernel
theorem dX8_runs_34 : decode cX8_runs 34 = .ok (.iload 4, 2) := by decide +kernel
theorem dX8_runs_36 : decode cX8_runs 36 = .ok (.ifCond .ne 7, 3) := by decide +kernel
theorem dX8_runs_39 : decode cX8_runs 39 = .ok (.iload_n 2, 1) := by decide +kernel
theorem dX8_runs_40 : decode cX8_runs 40 = .ok (.goto 14, 3) := by decide +kernel
theorem dX8_runs_43 : decode cX8_runs 43 = .ok (.iload 4, 2) := by decide +kernel
theorem dX8_runs_45 : decode cX8_runs 45 = .ok (.iconst 1, 1) := by decide +kernel
theorem dX8_runs_46 : decode cX8_runs 46 = .ok (.if_icmp .ne 7, 3) := by decide +kernel
theorem dX8_runs_49 : decode cX8_runs 49 = .ok (.iload_n 3, 1) := by decide +kernel
theorem dX8_runs_50 : decode cX8_runs 50 = .ok (.goto 4, 3) := by decide +kernel
theorem dX8_runs_53 : decode cX8_runs 53 = .ok (.iconst 0, 1) := by decide +kernel
theorem dX8_runs_54 : decode cX8_runs 54 = .ok (.iastore, 1) := by decide +kernel
theorem dX8_runs_55 : decode cX8_runs 55 = .ok (.iinc 4 1, 3) := by decide +kernel
theorem dX8_runs_58 : decode cX8_runs 58 = .ok (.goto (-55), 3) := by decide +kernel
theorem dX8_runs_61 : decode cX8_runs 61 = .ok (.iconst 0, 1) := by decide +kernel
theorem dX8_runs_62 : decode cX8_runs 62 = .ok (.istore 4, 2) := by decide +kernel
theorem dX8_runs_64 : decode cX8_runs 64 = .ok (.iconst 0, 1) := by decide +kernel
theorem dX8_runs_65 : decode cX8_runs 65 = .ok (.istore 5, 2) := by decide +kernel
theorem dX8_runs_67 : decode cX8_runs 67 = .ok (.iconst 0, 1) := by decide +kernel
theorem dX8_runs_68 : decode cX8_runs 68 = .ok (.istore 6, 2) := by decide +kernel
theorem dX8_runs_70 : decode cX8_runs 70 = .ok (.iconst 1, 1) := by decide +kernel
theorem dX8_runs_71 : decode cX8_runs 71 = .ok (.istore 7, 2) := by decide +kernel
theorem dX8_runs_73 : decode cX8_runs 73 = .ok (.iload 7, 2) := by decide +kernel
theorem dX8_runs_75 : decode cX8_runs 75 = .ok (.ifCond .eq 423, 3) := by decide +kernel
theorem dX8_runs_78 : decode cX8_runs 78 = .ok (.iload 4, 2) := by decide +kernel
theorem dX8_runs_80 : decode cX8_runs 80 = .ok (.ifCond .le 89, 3) := by decide +kernel
theorem dX8_runs_83 : decode cX8_runs 83 = .ok (.iload 6, 2) := by decide +kernel
theorem dX8_runs_85 : decode cX8_runs 85 = .ok (.ifCond .ne 84, 3) := by decide +kernel
theorem dX8_runs_88 : decode cX8_runs 88 = .ok (.iload 5, 2) := by decide +kernel
theorem dX8_runs_90 : decode cX8_runs 90 = .ok (.aload_n 0, 1) := by decide +kernel
theorem dX8_runs_91 : decode cX8_runs 91 = .ok (.getfield 46, 3) := by decide +kernel
theorem dX8_runs_94 : decode cX8_runs 94 = .ok (.iload 4, 2) := by decide +kernel
theorem dX8_runs_96 : decode cX8_runs 96 = .ok (.iconst 1, 1) := by decide +kernel
theorem dX8_runs_97 : decode cX8_runs 97 = .ok (.isub, 1) := by decide +kernel
theorem dX8_runs_98 : decode cX8_runs 98 = .ok (.iaload, 1) := by decide +kernel
theorem dX8_runs_99 : decode cX8_runs 99 = .ok (.if_icmp .ne 70, 3) := by decide +kernel
theorem dX8_runs_102 : decode cX8_runs 102 = .ok (.aload_n 0, 1) := by decide +kernel
theorem dX8_runs_103 : decode cX8_runs 103 = .ok (.getfield 43, 3) := by decide +kernel
theorem dX8_runs_106 : decode cX8_runs 106 = .ok (.iload 4, 2) := by decide +kernel
theorem dX8_runs_108 : decode cX8_runs 108 = .ok (.iconst 1, 1) := by decide +kernel
theorem dX8_runs_109 : decode cX8_runs 109 = .ok (.isub, 1) := by decide +kernel
theorem dX8_runs_110 : decode cX8_runs 110 = .ok (.iaload, 1) := by decide +kernel
theorem dX8_runs_111 : decode cX8_runs 111 = .ok (.istore 8, 2) := by decide +kernel
theorem dX8_runs_113 : decode cX8_runs 113 = .ok (.aload_n 0, 1) := by decide +kernel
theorem dX8_runs_114 : decode cX8_runs 114 = .ok (.iload 8, 2) := by decide +kernel
theorem dX8_runs_116 : decode cX8_runs 116 = .ok (.iconst 0, 1) := by decide +kernel
theorem dX8_runs_117 : decode cX8_runs 117 = .ok (.invokevirtual 124, 3) := by decide +kernel
theorem dX8_runs_120 : decode cX8_runs 120 = .ok (.iconst 3, 1) := by decide +kernel
theorem dX8_runs_121 : decode cX8_runs 121 = .ok (.if_icmp .ne 7, 3) := by decide +kernel
theorem dX8_runs_124 : decode cX8_runs 124 = .ok (.iconst 1, 1) := by decide +kernel
theorem dX8_runs_125 : decode cX8_runs 125 = .ok (.goto 4, 3) := by decide +kernel
theorem dX8_runs_128 : decode cX8_runs 128 = .ok (.iconst 0, 1) := by decide +kernel
theorem dX8_runs_129 : decode cX8_runs 129 = .ok (.istore 6, 2) := by decide +kernel
theorem dX8_runs_131 : decode cX8_runs 131 = .ok (.iload 6, 2) := by decide +kernel
theorem dX8_runs_133 : decode cX8_runs 133 = .ok (.ifCond .eq 8, 3) := by decide +kernel
theorem dX8_runs_136 : decode cX8_runs 136 = .ok (.iload 8, 2) := by decide +kernel
theorem dX8_runs_138 : decode cX8_runs 138 = .ok (.goto 11, 3) := by decide +kernel
theorem dX8_runs_141 : decode cX8_runs 141 = .ok (.aload_n 0, 1) := by decide +kernel
theorem dX8_runs_142 : decode cX8_runs 142 = .ok (.iload 8, 2) := by decide +kernel
theorem dX8_runs_144 : decode cX8_runs 144 = .ok (.bipush 6, 2) := by decide +kernel
theorem dX8_runs_146 : decode cX8_runs 146 = .ok (.invokevirtual 124, 3) := by decide +kernel
theorem dX8_runs_149 : decode cX8_runs 149 = .ok (.istore 5, 2) := by decide +kernel
theorem dX8_runs_151 : decode cX8_runs 151 = .ok (.iload 4, 2) := by decide +kernel
theorem dX8_runs_153 : decode cX8_runs 153 = .ok (.iload 6, 2) := by decide +kernel
theorem dX8_runs_155 : decode cX8_runs 155 = .ok (.ifCond .eq 7, 3) := by decide +kernel
theorem dX8_runs_158 : decode cX8_runs 158 = .ok (.iconst 0, 1) := by decide +kernel
theorem dX8_runs_159 : decode cX8_runs 159 = .ok (.goto 4, 3) := by decide +kernel
theorem dX8_runs_162 : decode cX8_runs 162 = .ok (.iconst 1, 1) := by decide +kernel
theorem dX8_runs_163 : decode cX8_runs 163 = .ok (.isub, 1) := by decide +kernel
theorem dX8_runs_164 : decode cX8_runs 164 = .ok (.istore 4, 2) := by decide +kernel
theorem dX8_runs_166 : decode cX8_runs 166 = .ok (.goto (-93), 3) := by decide +kernel
theorem dX8_runs_169 : decode cX8_runs 169 = .ok (.iload 5, 2) := by decide +kernel
theorem dX8_runs_171 : decode cX8_runs 171 = .ok (.aload_n 0, 1) := by decide +kernel
theorem dX8_runs_172 : decode cX8_runs 172 = .ok (.getfield 19, 3) := by decide +kernel
theorem dX8_runs_175 : decode cX8_runs 175 = .ok (.iconst 0, 1) := by decide +kernel
theorem dX8_runs_176 : decode cX8_runs 176 = .ok (.iaload, 1) := by decide +kernel
theorem dX8_runs_177 : decode cX8_runs 177 = .ok (.if_icmp .ne 9, 3) := by decide +kernel
theorem dX8_runs_180 : decode cX8_runs 180 = .ok (.iconst 0, 1) := by decide +kernel
theorem dX8_runs_181 : decode cX8_runs 181 = .ok (.istore 7, 2) := by decide +kernel
theorem dX8_runs_183 : decode cX8_runs 183 = .ok (.goto (-110), 3) := by decide +kernel
theorem dX8_runs_186 : decode cX8_runs 186 = .ok (.aload_n 0, 1) := by decide +kernel
theorem dX8_runs_187 : decode cX8_runs 187 = .ok (.getfield 40, 3) := by decide +kernel
theorem dX8_runs_190 : decode cX8_runs 190 = .ok (.bipush 6, 2) := by decide +kernel
theorem dX8_runs_192 : decode cX8_runs 192 = .ok (.iload_n 1, 1) := by decide +kernel
theorem dX8_runs_193 : decode cX8_runs 193 = .ok (.imul, 1) := by decide +kernel
theorem dX8_runs_194 : decode cX8_runs 194 = .ok (.iaload, 1) := by decide +kernel
theorem dX8_runs_195 : decode cX8_runs 195 = .ok (.sipush 400, 3) := by decide +kernel
theorem dX8_runs_198 : decode cX8_runs 198 = .ok (.if_icmp .ne 21, 3) := by decide +kernel
theorem dX8_runs_201 : decode cX8_runs 201 = .ok (.aload_n 0, 1) := by decide +kernel
theorem dX8_runs_202 : decode cX8_runs 202 = .ok (.getfield 40, 3) := by decide +kernel
theorem dX8_runs_205 : decode cX8_runs 205 = .ok (.bipush 6, 2) := by decide +kernel
theorem dX8_runs_207 : decode cX8_runs 207 = .ok (.iload_n 1, 1) := by decide +kernel
theorem dX8_runs_208 : decode cX8_runs 208 = .ok (.imul, 1) := by decide +kernel
theorem dX8_runs_209 : decode cX8_runs 209 = .ok (.iconst 1, 1) := by decide +kernel
theorem dX8_runs_210 : decode cX8_runs 210 = .ok (.iadd, 1) := by decide +kernel
theorem dX8_runs_211 : decode cX8_runs 211 = .ok (.iconst 1, 1) := by decide +kernel
theorem dX8_runs_212 : decode cX8_runs 212 = .ok (.iastore, 1) := by decide +kernel
theorem dX8_runs_213 : decode cX8_runs 213 = .ok (.iconst 0, 1) := by decide +kernel
theorem dX8_runs_214 : decode cX8_runs 214 = .ok (.istore 7, 2) := by decide +kernel
theorem dX8_runs_216 : decode cX8_runs 216 = .ok (.goto (-143), 3) := by decide +kernel
theorem dX8_runs_219 : decode cX8_runs 219 = .ok (.aload_n 0, 1) := by decide +kernel
theorem dX8_runs_220 : decode cX8_runs 220 = .ok (.getfield 40, 3) := by decide +kernel
theorem dX8_runs_223 : decode cX8_runs 223 = .ok (.bipush 6, 2) := by decide +kernel
theorem dX8_runs_225 : decode cX8_runs 225 = .ok (.iload_n 1, 1) := by decide +kernel
theorem dX8_runs_226 : decode cX8_runs 226 = .ok (.imul, 1) := by decide +kernel
theorem dX8_runs_227 : decode cX8_runs 227 = .ok (.dup2, 1) := by decide +kernel
theorem dX8_runs_228 : decode cX8_runs 228 = .ok (.iaload, 1) := by decide +kernel
theorem dX8_runs_229 : decode cX8_runs 229 = .ok (.iconst 1, 1) := by decide +kernel
theorem dX8_runs_230 : decode cX8_runs 230 = .ok (.iadd, 1) := by decide +kernel
theorem dX8_runs_231 : decode cX8_runs 231 = .ok (.iastore, 1) := by decide +kernel
theorem dX8_runs_232 : decode cX8_runs 232 = .ok (.aload_n 0, 1) := by decide +kernel
theorem dX8_runs_233 : decode cX8_runs 233 = .ok (.iload 5, 2) := by decide +kernel
theorem dX8_runs_235 : decode cX8_runs 235 = .ok (.iconst 0, 1) := by decide +kernel
theorem dX8_runs_236 : decode cX8_runs 236 = .ok (.invokevirtual 124, 3) := by decide +kernel
theorem dX8_runs_239 : decode cX8_runs 239 = .ok (.istore 8, 2) := by decide +kernel
theorem dX8_runs_241 : decode cX8_runs 241 = .ok (.iload 8, 2) := by decide +kernel
theorem dX8_runs_243 : decode cX8_runs 243 = .ok (.iconst 3, 1) := by decide +kernel
theorem dX8_runs_244 : decode cX8_runs 244 = .ok (.if_icmp .lt 27, 3) := by decide +kernel
theorem dX8_runs_247 : decode cX8_runs 247 = .ok (.aload_n 0, 1) := by decide +kernel
theorem dX8_runs_248 : decode cX8_runs 248 = .ok (.getfield 28, 3) := by decide +kernel
theorem dX8_runs_251 : decode cX8_runs 251 = .ok (.bipush 6, 2) := by decide +kernel
theorem dX8_runs_253 : decode cX8_runs 253 = .ok (.iload_n 1, 1) := by decide +kernel
theorem dX8_runs_254 : decode cX8_runs 254 = .ok (.imul, 1) := by decide +kernel
theorem dX8_runs_255 : decode cX8_runs 255 = .ok (.aload_n 0, 1) := by decide +kernel
theorem dX8_runs_256 : decode cX8_runs 256 = .ok (.iload 5, 2) := by decide +kernel
theorem dX8_runs_258 : decode cX8_runs 258 = .ok (.iconst 1, 1) := by decide +kernel
theorem dX8_runs_259 : decode cX8_runs 259 = .ok (.invokevirtual 124, 3) := by decide +kernel
theorem dX8_runs_262 : decode cX8_runs 262 = .ok (.iadd, 1) := by decide +kernel
theorem dX8_runs_263 : decode cX8_runs 263 = .ok (.iaload, 1) := by decide +kernel
theorem dX8_runs_264 : decode cX8_runs 264 = .ok (.ifCond .le 7, 3) := by decide +kernel
theorem dX8_runs_267 : decode cX8_runs 267 = .ok (.iconst 1, 1) := by decide +kernel
theorem dX8_runs_268 : decode cX8_runs 268 = .ok (.goto 4, 3) := by decide +kernel
theorem dX8_runs_271 : decode cX8_runs 271 = .ok (.iconst 0, 1) := by decide +kernel
theorem dX8_runs_272 : decode cX8_runs 272 = .ok (.istore 9, 2) := by decide +kernel
theorem dX8_runs_274 : decode cX8_runs 274 = .ok (.iload 8, 2) := by decide +kernel
theorem dX8_runs_276 : decode cX8_runs 276 = .ok (.iconst 3, 1) := by decide +kernel
theorem dX8_runs_277 : decode cX8_runs 277 = .ok (.if_icmp .ne 131, 3) := by decide +kernel
theorem dX8_runs_280 : decode cX8_runs 280 = .ok (.iload 4, 2) := by decide +kernel
theorem dX8_runs_282 : decode cX8_runs 282 = .ok (.iload 9, 2) := by decide +kernel
theorem dX8_runs_284 : decode cX8_runs 284 = .ok (.ifCond .eq 12, 3) := by decide +kernel
theorem dX8_runs_287 : decode cX8_runs 287 = .ok (.iload 6, 2) := by decide +kernel
theorem dX8_runs_289 : decode cX8_runs 289 = .ok (.ifCond .ne 7, 3) := by decide +kernel
theorem dX8_runs_292 : decode cX8_runs 292 = .ok (.iconst 1, 1) := by decide +kernel
theorem dX8_runs_293 : decode cX8_runs 293 = .ok (.goto 18, 3) := by decide +kernel
theorem dX8_runs_296 : decode cX8_runs 296 = .ok (.iload 9, 2) := by decide +kernel
theorem dX8_runs_298 : decode cX8_runs 298 = .ok (.ifCond .ne 12, 3) := by decide +kernel
theorem dX8_runs_301 : decode cX8_runs 301 = .ok (.iload 6, 2) := by decide +kernel
theorem dX8_runs_303 : decode cX8_runs 303 = .ok (.ifCond .eq 7, 3) := by decide +kernel
theorem dX8_runs_306 : decode cX8_runs 306 = .ok (.iconst (-1), 1) := by decide +kernel
theorem dX8_runs_307 : decode cX8_runs 307 = .ok (.goto 4, 3) := by decide +kernel
theorem dX8_runs_310 : decode cX8_runs 310 = .ok (.iconst 0, 1) := by decide +kernel
theorem dX8_runs_311 : decode cX8_runs 311 = .ok (.iadd, 1) := by decide +kernel
theorem dX8_runs_312 : decode cX8_runs 312 = .ok (.istore 4, 2) := by decide +kernel
theorem dX8_runs_314 : decode cX8_runs 314 = .ok (.iload 9, 2) := by decide +kernel
theorem dX8_runs_316 : decode cX8_runs 316 = .ok (.ifCond .eq 67, 3) := by decide +kernel
theorem dX8_runs_319 : decode cX8_runs 319 = .ok (.aload_n 0, 1) := by decide +kernel
theorem dX8_runs_320 : decode cX8_runs 320 = .ok (.getfield 49, 3) := by decide +kernel
theorem dX8_runs_323 : decode cX8_runs 323 = .ok (.iload 4, 2) := by decide +kernel
theorem dX8_runs_325 : decode cX8_runs 325 = .ok (.iconst 1, 1) := by decide +kernel
theorem dX8_runs_326 : decode cX8_runs 326 = .ok (.isub, 1) := by decide +kernel
theorem dX8_runs_327 : decode cX8_runs 327 = .ok (.iload 6, 2) := by decide +kernel
theorem dX8_runs_329 : decode cX8_runs 329 = .ok (.ifCond .eq 15, 3) := by decide +kernel
theorem dX8_runs_332 : decode cX8_runs 332 = .ok (.aload_n 0, 1) := by decide +kernel
theorem dX8_runs_333 : decode cX8_runs 333 = .ok (.getfield 49, 3) := by decide +kernel
theorem dX8_runs_336 : decode cX8_runs 336 = .ok (.iload 4, 2) := by decide +kernel
theorem dX8_runs_338 : decode cX8_runs 338 = .ok (.iconst 1, 1) := by decide +kernel
theorem dX8_runs_339 : decode cX8_runs 339 = .ok (.isub, 1) := by decide +kernel
theorem dX8_runs_340 : decode cX8_runs 340 = .ok (.iaload, 1) := by decide +kernel
theorem dX8_runs_341 : decode cX8_runs 341 = .ok (.goto 4, 3) := by decide +kernel
theorem dX8_runs_344 : decode cX8_runs 344 = .ok (.iconst 0, 1) := by decide +kernel
theorem dX8_runs_345 : decode cX8_runs 345 = .ok (.iastore, 1) := by decide +kernel
theorem dX8_runs_346 : decode cX8_runs 346 = .ok (.aload_n 0, 1) := by decide +kernel
theorem dX8_runs_347 : decode cX8_runs 347 = .ok (.getfield 43, 3) := by decide +kernel
theorem dX8_runs_350 : decode cX8_runs 350 = .ok (.iload 4, 2) := by decide +kernel
theorem dX8_runs_352 : decode cX8_runs 352 = .ok (.iconst 1, 1) := by decide +kernel
theorem dX8_runs_353 : decode cX8_runs 353 = .ok (.isub, 1) := by decide +kernel
theorem dX8_runs_354 : decode cX8_runs 354 = .ok (.iload 5, 2) := by decide +kernel
theorem dX8_runs_356 : decode cX8_runs 356 = .ok (.iastore, 1) := by decide +kernel
theorem dX8_runs_357 : decode cX8_runs 357 = .ok (.aload_n 0, 1) := by decide +kernel
theorem dX8_runs_358 : decode cX8_runs 358 = .ok (.getfield 46, 3) := by decide +kernel
theorem dX8_runs_361 : decode cX8_runs 361 = .ok (.iload 4, 2) := by decide +kernel
theorem dX8_runs_363 : decode cX8_runs 363 = .ok (.iconst 1, 1) := by decide +kernel
theorem dX8_runs_364 : decode cX8_runs 364 = .ok (.isub, 1) := by decide +kernel
theorem dX8_runs_365 : decode cX8_runs 365 = .ok (.aload_n 0, 1) := by decide +kernel
theorem dX8_runs_366 : decode cX8_runs 366 = .ok (.iload 5, 2) := by decide +kernel
theorem dX8_runs_368 : decode cX8_runs 368 = .ok (.bipush 6, 2) := by decide +kernel
theorem dX8_runs_370 : decode cX8_runs 370 = .ok (.invokevirtual 124, 3) := by decide +kernel
theorem dX8_runs_373 : decode cX8_runs 373 = .ok (.iastore, 1) := by decide +kernel
theorem dX8_runs_374 : decode cX8_runs 374 = .ok (.aload_n 0, 1) := by decide +kernel
theorem dX8_runs_375 : decode cX8_runs 375 = .ok (.iload_n 1, 1) := by decide +kernel
theorem dX8_runs_376 : decode cX8_runs 376 = .ok (.iload 4, 2) := by decide +kernel
theorem dX8_runs_378 : decode cX8_runs 378 = .ok (.iconst 1, 1) := by decide +kernel
theorem dX8_runs_379 : decode cX8_runs 379 = .ok (.isub, 1) := by decide +kernel
theorem dX8_runs_380 : decode cX8_runs 380 = .ok (.invokevirtual 152, 3) := by decide +kernel
theorem dX8_runs_383 : decode cX8_runs 383 = .ok (.iload 9, 2) := by decide +kernel
theorem dX8_runs_385 : decode cX8_runs 385 = .ok (.ifCond .eq 10, 3) := by decide +kernel
theorem dX8_runs_388 : decode cX8_runs 388 = .ok (.iload 5, 2) := by decide +kernel
theorem dX8_runs_390 : decode cX8_runs 390 = .ok (.iconst 1, 1) := by decide +kernel
theorem dX8_runs_391 : decode cX8_runs 391 = .ok (.iadd, 1) := by decide +kernel
theorem dX8_runs_392 : decode cX8_runs 392 = .ok (.goto 11, 3) := by decide +kernel
theorem dX8_runs_395 : decode cX8_runs 395 = .ok (.aload_n 0, 1) := by decide +kernel
theorem dX8_runs_396 : decode cX8_runs 396 = .ok (.iload 5, 2) := by decide +kernel
theorem dX8_runs_398 : decode cX8_runs 398 = .ok (.bipush 6, 2) := by decide +kernel
theorem dX8_runs_400 : decode cX8_runs 400 = .ok (.invokevirtual 124, 3) := by decide +kernel
theorem dX8_runs_403 : decode cX8_runs 403 = .ok (.istore 5, 2) := by decide +kernel
theorem dX8_runs_405 : decode cX8_runs 405 = .ok (.goto 87, 3) := by decide +kernel
theorem dX8_runs_408 : decode cX8_runs 408 = .ok (.iload 8, 2) := by decide +kernel
theorem dX8_runs_410 : decode cX8_runs 410 = .ok (.iconst 4, 1) := by decide +kernel
theorem dX8_runs_411 : decode cX8_runs 411 = .ok (.if_icmp .ne 69, 3) := by decide +kernel
theorem dX8_runs_414 : decode cX8_runs 414 = .ok (.aload_n 0, 1) := by decide +kernel
theorem dX8_runs_415 : decode cX8_runs 415 = .ok (.getfield 43, 3) := by decide +kernel
theorem dX8_runs_418 : decode cX8_runs 418 = .ok (.iload 4, 2) := by decide +kernel
theorem dX8_runs_420 : decode cX8_runs 420 = .ok (.iload 5, 2) := by decide +kernel
theorem dX8_runs_422 : decode cX8_runs 422 = .ok (.iastore, 1) := by decide +kernel
theorem dX8_runs_423 : decode cX8_runs 423 = .ok (.aload_n 0, 1) := by decide +kernel
theorem dX8_runs_424 : decode cX8_runs 424 = .ok (.getfield 46, 3) := by decide +kernel
theorem dX8_runs_427 : decode cX8_runs 427 = .ok (.iload 4, 2) := by decide +kernel
theorem dX8_runs_429 : decode cX8_runs 429 = .ok (.iload 9, 2) := by decide +kernel
theorem dX8_runs_431 : decode cX8_runs 431 = .ok (.ifCond .eq 13, 3) := by decide +kernel
theorem dX8_runs_434 : decode cX8_runs 434 = .ok (.aload_n 0, 1) := by decide +kernel
theorem dX8_runs_435 : decode cX8_runs 435 = .ok (.iload 5, 2) := by decide +kernel
theorem dX8_runs_437 : decode cX8_runs 437 = .ok (.iconst 5, 1) := by decide +kernel
theorem dX8_runs_438 : decode cX8_runs 438 = .ok (.invokevirtual 124, 3) := by decide +kernel
theorem dX8_runs_441 : decode cX8_runs 441 = .ok (.goto 11, 3) := by decide +kernel
theorem dX8_runs_444 : decode cX8_runs 444 = .ok (.aload_n 0, 1) := by decide +kernel
theorem dX8_runs_445 : decode cX8_runs 445 = .ok (.iload 5, 2) := by decide +kernel
theorem dX8_runs_447 : decode cX8_runs 447 = .ok (.bipush 6, 2) := by decide +kernel
theorem dX8_runs_449 : decode cX8_runs 449 = .ok (.invokevirtual 124, 3) := by decide +kernel
theorem dX8_runs_452 : decode cX8_runs 452 = .ok (.iastore, 1) := by decide +kernel
theorem dX8_runs_453 : decode cX8_runs 453 = .ok (.iinc 4 1, 3) := by decide +kernel
theorem dX8_runs_456 : decode cX8_runs 456 = .ok (.iload 9, 2) := by decide +kernel
theorem dX8_runs_458 : decode cX8_runs 458 = .ok (.ifCond .eq 10, 3) := by decide +kernel
theorem dX8_runs_461 : decode cX8_runs 461 = .ok (.iload 5, 2) := by decide +kernel
theorem dX8_runs_463 : decode cX8_runs 463 = .ok (.iconst 1, 1) := by decide +kernel
theorem dX8_runs_464 : decode cX8_runs 464 = .ok (.iadd, 1) := by decide +kernel
theorem dX8_runs_465 : decode cX8_runs 465 = .ok (.goto 10, 3) := by decide +kernel
theorem dX8_runs_468 : decode cX8_runs 468 = .ok (.aload_n 0, 1) := by decide +kernel
theorem dX8_runs_469 : decode cX8_runs 469 = .ok (.iload 5, 2) := by decide +kernel
theorem dX8_runs_471 : decode cX8_runs 471 = .ok (.iconst 5, 1) := by decide +kernel
theorem dX8_runs_472 : decode cX8_runs 472 = .ok (.invokevirtual 124, 3) := by decide +kernel
theorem dX8_runs_475 : decode cX8_runs 475 = .ok (.istore 5, 2) := by decide +kernel
theorem dX8_runs_477 : decode cX8_runs 477 = .ok (.goto 15, 3) := by decide +kernel
theorem dX8_runs_480 : decode cX8_runs 480 = .ok (.aload_n 0, 1) := by decide +kernel
theorem dX8_runs_481 : decode cX8_runs 481 = .ok (.iload_n 1, 1) := by decide +kernel
theorem dX8_runs_482 : decode cX8_runs 482 = .ok (.iload 5, 2) := by decide +kernel
theorem dX8_runs_484 : decode cX8_runs 484 = .ok (.iload 8, 2) := by decide +kernel
theorem dX8_runs_486 : decode cX8_runs 486 = .ok (.invokevirtual 156, 3) := by decide +kernel
theorem dX8_runs_489 : decode cX8_runs 489 = .ok (.iinc 5 1, 3) := by decide +kernel
theorem dX8_runs_492 : decode cX8_runs 492 = .ok (.iconst 0, 1) := by decide +kernel
theorem dX8_runs_493 : decode cX8_runs 493 = .ok (.istore 6, 2) := by decide +kernel
theorem dX8_runs_495 : decode cX8_runs 495 = .ok (.goto (-422), 3) := by decide +kernel
theorem dX8_runs_498 : decode cX8_runs 498 = .ok (.return_, 1) := by decide +kernel
theorem dX8_does_0 : decode cX8_does 0 = .ok (.iload_n 3, 1) := by decide +kernel
theorem dX8_does_1 : decode cX8_does 1 = .ok (.ifCond .ne 12, 3) := by decide +kernel
theorem dX8_does_4 : decode cX8_does 4 = .ok (.aload_n 0, 1) := by decide +kernel
theorem dX8_does_5 : decode cX8_does 5 = .ok (.iload_n 1, 1) := by decide +kernel
theorem dX8_does_6 : decode cX8_does 6 = .ok (.iload_n 2, 1) := by decide +kernel
theorem dX8_does_7 : decode cX8_does 7 = .ok (.invokevirtual 159, 3) := by decide +kernel
theorem dX8_does_10 : decode cX8_does 10 = .ok (.goto 22, 3) := by decide +kernel
theorem dX8_does_13 : decode cX8_does 13 = .ok (.iload_n 3, 1) := by decide +kernel
theorem dX8_does_14 : decode cX8_does 14 = .ok (.iconst 1, 1) := by decide +kernel
theorem dX8_does_15 : decode cX8_does 15 = .ok (.if_icmp .ne 12, 3) := by decide +kernel
theorem dX8_does_18 : decode cX8_does 18 = .ok (.aload_n 0, 1) := by decide +kernel
theorem dX8_does_19 : decode cX8_does 19 = .ok (.iload_n 1, 1) := by decide +kernel
theorem dX8_does_20 : decode cX8_does 20 = .ok (.iload_n 2, 1) := by decide +kernel
theorem dX8_does_21 : decode cX8_does 21 = .ok (.invokevirtual 162, 3) := by decide +kernel
theorem dX8_does_24 : decode cX8_does 24 = .ok (.goto 8, 3) := by decide +kernel
theorem dX8_does_27 : decode cX8_does 27 = .ok (.aload_n 0, 1) := by decide +kernel
theorem dX8_does_28 : decode cX8_does 28 = .ok (.iload_n 1, 1) := by decide +kernel
theorem dX8_does_29 : decode cX8_does 29 = .ok (.invokevirtual 165, 3) := by decide +kernel
theorem dX8_does_32 : decode cX8_does 32 = .ok (.return_, 1) := by decide +kernel
theorem dX8_runsOne_0 : decode cX8_runsOne 0 = .ok (.aload_n 0, 1) := by decide +kernel
theorem dX8_runsOne_1 : decode cX8_runsOne 1 = .ok (.iload_n 1, 1) := by decide +kernel
theorem dX8_runsOne_2 : decode cX8_runsOne 2 = .ok (.invokevirtual 121, 3) := by decide +kernel
theorem dX8_runsOne_5 : decode cX8_runsOne 5 = .ok (.aload_n 0, 1) := by decide +kernel
theorem dX8_runsOne_6 : decode cX8_runsOne 6 = .ok (.iload_n 1, 1) := by decide +kernel
theorem dX8_runsOne_7 : decode cX8_runsOne 7 = .ok (.iload_n 2, 1) := by decide +kernel
theorem dX8_runsOne_8 : decode cX8_runsOne 8 = .ok (.iload_n 3, 1) := by decide +kernel
theorem dX8_runsOne_9 : decode cX8_runsOne 9 = .ok (.invokevirtual 168, 3) := by decide +kernel
theorem dX8_runsOne_12 : decode cX8_runsOne 12 = .ok (.return_, 1) := by decide +kernel
theorem dX8_least_0 : decode cX8_least 0 = .ok (.iload_n 0, 1) := by decide +kernel
theorem dX8_least_1 : decode cX8_least 1 = .ok (.iload_n 1, 1) := by decide +kernel
theorem dX8_least_2 : decode cX8_least 2 = .ok (.if_icmp .ge 7, 3) := by decide +kernel
theorem dX8_least_5 : decode cX8_least 5 = .ok (.iload_n 0, 1) := by decide +kernel
theorem dX8_least_6 : decode cX8_least 6 = .ok (.goto 4, 3) := by decide +kernel
theorem dX8_least_9 : decode cX8_least 9 = .ok (.iload_n 1, 1) := by decide +kernel
theorem dX8_least_10 : decode cX8_least 10 = .ok (.ireturn, 1) := by decide +kernel
theorem dX8_run_0 : decode cX8_run 0 = .ok (.iload_n 1, 1) := by decide +kernel
theorem dX8_run_1 : decode cX8_run 1 = .ok (.invokestatic 107, 3) := by decide +kernel
theorem dX8_run_4 : decode cX8_run 4 = .ok (.ifCond .eq 21, 3) := by decide +kernel
theorem dX8_run_7 : decode cX8_run 7 = .ok (.iload_n 2, 1) := by decide +kernel
theorem dX8_run_8 : decode cX8_run 8 = .ok (.iload_n 3, 1) := by decide +kernel
theorem dX8_run_9 : decode cX8_run 9 = .ok (.invokestatic 171, 3) := by decide +kernel
theorem dX8_run_12 : decode cX8_run 12 = .ok (.ifCond .eq 13, 3) := by decide +kernel
theorem dX8_run_15 : decode cX8_run 15 = .ok (.iload 4, 2) := by decide +kernel
theorem dX8_run_17 : decode cX8_run 17 = .ok (.iconst 0, 1) := by decide +kernel
theorem dX8_run_18 : decode cX8_run 18 = .ok (.iconst 5, 1) := by decide +kernel
theorem dX8_run_19 : decode cX8_run 19 = .ok (.invokestatic 61, 3) := by decide +kernel
theorem dX8_run_22 : decode cX8_run 22 = .ok (.ifCond .ne 7, 3) := by decide +kernel
theorem dX8_run_25 : decode cX8_run 25 = .ok (.sipush (-10001), 3) := by decide +kernel
theorem dX8_run_28 : decode cX8_run 28 = .ok (.ireturn, 1) := by decide +kernel
theorem dX8_run_29 : decode cX8_run 29 = .ok (.aload_n 0, 1) := by decide +kernel
theorem dX8_run_30 : decode cX8_run 30 = .ok (.iload_n 1, 1) := by decide +kernel
theorem dX8_run_31 : decode cX8_run 31 = .ok (.iload_n 2, 1) := by decide +kernel
theorem dX8_run_32 : decode cX8_run 32 = .ok (.iload_n 3, 1) := by decide +kernel
theorem dX8_run_33 : decode cX8_run 33 = .ok (.invokevirtual 174, 3) := by decide +kernel
theorem dX8_run_36 : decode cX8_run 36 = .ok (.aload_n 0, 1) := by decide +kernel
theorem dX8_run_37 : decode cX8_run 37 = .ok (.getfield 40, 3) := by decide +kernel
theorem dX8_run_40 : decode cX8_run 40 = .ok (.bipush 6, 2) := by decide +kernel
theorem dX8_run_42 : decode cX8_run 42 = .ok (.iload_n 1, 1) := by decide +kernel
theorem dX8_run_43 : decode cX8_run 43 = .ok (.imul, 1) := by decide +kernel
theorem dX8_run_44 : decode cX8_run 44 = .ok (.iload 4, 2) := by decide +kernel
theorem dX8_run_46 : decode cX8_run 46 = .ok (.iadd, 1) := by decide +kernel
theorem dX8_run_47 : decode cX8_run 47 = .ok (.iaload, 1) := by decide +kernel
theorem dX8_run_48 : decode cX8_run 48 = .ok (.ireturn, 1) := by decide +kernel
theorem dX8_told_0 : decode cX8_told 0 = .ok (.iload_n 1, 1) := by decide +kernel
theorem dX8_told_1 : decode cX8_told 1 = .ok (.invokestatic 107, 3) := by decide +kernel
theorem dX8_told_4 : decode cX8_told 4 = .ok (.ifCond .eq 16, 3) := by decide +kernel
theorem dX8_told_7 : decode cX8_told 7 = .ok (.iload_n 2, 1) := by decide +kernel
theorem dX8_told_8 : decode cX8_told 8 = .ok (.iload_n 3, 1) := by decide +kernel
theorem dX8_told_9 : decode cX8_told 9 = .ok (.invokestatic 171, 3) := by decide +kernel
theorem dX8_told_12 : decode cX8_told 12 = .ok (.ifCond .eq 8, 3) := by decide +kernel
theorem dX8_told_15 : decode cX8_told 15 = .ok (.iload 4, 2) := by decide +kernel
theorem dX8_told_17 : decode cX8_told 17 = .ok (.ifCond .ge 7, 3) := by decide +kernel
theorem dX8_told_20 : decode cX8_told 20 = .ok (.sipush (-10001), 3) := by decide +kernel
theorem dX8_told_23 : decode cX8_told 23 = .ok (.ireturn, 1) := by decide +kernel
theorem dX8_told_24 : decode cX8_told 24 = .ok (.aload_n 0, 1) := by decide +kernel
theorem dX8_told_25 : decode cX8_told 25 = .ok (.iload_n 1, 1) := by decide +kernel
theorem dX8_told_26 : decode cX8_told 26 = .ok (.iload_n 2, 1) := by decide +kernel
theorem dX8_told_27 : decode cX8_told 27 = .ok (.iload_n 3, 1) := by decide +kernel
theorem dX8_told_28 : decode cX8_told 28 = .ok (.invokevirtual 174, 3) := by decide +kernel
theorem dX8_told_31 : decode cX8_told 31 = .ok (.iload 4, 2) := by decide +kernel
theorem dX8_told_33 : decode cX8_told 33 = .ok (.bipush 40, 2) := by decide +kernel
theorem dX8_told_35 : decode cX8_told 35 = .ok (.aload_n 0, 1) := by decide +kernel
theorem dX8_told_36 : decode cX8_told 36 = .ok (.getfield 40, 3) := by decide +kernel
theorem dX8_told_39 : decode cX8_told 39 = .ok (.bipush 6, 2) := by decide +kernel
theorem dX8_told_41 : decode cX8_told 41 = .ok (.iload_n 1, 1) := by decide +kernel
theorem dX8_told_42 : decode cX8_told 42 = .ok (.imul, 1) := by decide +kernel
theorem dX8_told_43 : decode cX8_told 43 = .ok (.iconst 2, 1) := by decide +kernel
theorem dX8_told_44 : decode cX8_told 44 = .ok (.iadd, 1) := by decide +kernel
theorem dX8_told_45 : decode cX8_told 45 = .ok (.iaload, 1) := by decide +kernel
theorem dX8_told_46 : decode cX8_told 46 = .ok (.invokestatic 177, 3) := by decide +kernel
theorem dX8_told_49 : decode cX8_told 49 = .ok (.if_icmp .ge 18, 3) := by decide +kernel
theorem dX8_told_52 : decode cX8_told 52 = .ok (.aload_n 0, 1) := by decide +kernel
theorem dX8_told_53 : decode cX8_told 53 = .ok (.getfield 31, 3) := by decide +kernel
theorem dX8_told_56 : decode cX8_told 56 = .ok (.bipush 40, 2) := by decide +kernel
theorem dX8_told_58 : decode cX8_told 58 = .ok (.iload_n 1, 1) := by decide +kernel
theorem dX8_told_59 : decode cX8_told 59 = .ok (.imul, 1) := by decide +kernel
theorem dX8_told_60 : decode cX8_told 60 = .ok (.iload 4, 2) := by decide +kernel
theorem dX8_told_62 : decode cX8_told 62 = .ok (.iadd, 1) := by decide +kernel
theorem dX8_told_63 : decode cX8_told 63 = .ok (.iaload, 1) := by decide +kernel
theorem dX8_told_64 : decode cX8_told 64 = .ok (.goto 6, 3) := by decide +kernel
theorem dX8_told_67 : decode cX8_told 67 = .ok (.sipush (-10009), 3) := by decide +kernel
theorem dX8_told_70 : decode cX8_told 70 = .ok (.ireturn, 1) := by decide +kernel
theorem dX8_cell_0 : decode cX8_cell 0 = .ok (.iload_n 1, 1) := by decide +kernel
theorem dX8_cell_1 : decode cX8_cell 1 = .ok (.invokestatic 107, 3) := by decide +kernel
theorem dX8_cell_4 : decode cX8_cell 4 = .ok (.ifCond .eq 25, 3) := by decide +kernel
theorem dX8_cell_7 : decode cX8_cell 7 = .ok (.iload_n 2, 1) := by decide +kernel
theorem dX8_cell_8 : decode cX8_cell 8 = .ok (.iload_n 3, 1) := by decide +kernel
theorem dX8_cell_9 : decode cX8_cell 9 = .ok (.invokestatic 171, 3) := by decide +kernel
theorem dX8_cell_12 : decode cX8_cell 12 = .ok (.ifCond .eq 17, 3) := by decide +kernel
theorem dX8_cell_15 : decode cX8_cell 15 = .ok (.iload 4, 2) := by decide +kernel
theorem dX8_cell_17 : decode cX8_cell 17 = .ok (.iconst (-1), 1) := by decide +kernel
theorem dX8_cell_18 : decode cX8_cell 18 = .ok (.if_icmp .lt 11, 3) := by decide +kernel
theorem dX8_cell_21 : decode cX8_cell 21 = .ok (.iload 5, 2) := by decide +kernel
theorem dX8_cell_23 : decode cX8_cell 23 = .ok (.invokestatic 180, 3) := by decide +kernel
theorem dX8_cell_26 : decode cX8_cell 26 = .ok (.ifCond .ne 7, 3) := by decide +kernel
theorem dX8_cell_29 : decode cX8_cell 29 = .ok (.sipush (-10001), 3) := by decide +kernel
theorem dX8_cell_32 : decode cX8_cell 32 = .ok (.ireturn, 1) := by decide +kernel
theorem dX8_cell_33 : decode cX8_cell 33 = .ok (.aload_n 0, 1) := by decide +kernel
theorem dX8_cell_34 : decode cX8_cell 34 = .ok (.iload_n 1, 1) := by decide +kernel
theorem dX8_cell_35 : decode cX8_cell 35 = .ok (.iload_n 2, 1) := by decide +kernel
theorem dX8_cell_36 : decode cX8_cell 36 = .ok (.iload_n 3, 1) := by decide +kernel
theorem dX8_cell_37 : decode cX8_cell 37 = .ok (.invokevirtual 174, 3) := by decide +kernel
theorem dX8_cell_40 : decode cX8_cell 40 = .ok (.iload 4, 2) := by decide +kernel
theorem dX8_cell_42 : decode cX8_cell 42 = .ok (.iconst (-1), 1) := by decide +kernel
theorem dX8_cell_43 : decode cX8_cell 43 = .ok (.if_icmp .ne 16, 3) := by decide +kernel
theorem dX8_cell_46 : decode cX8_cell 46 = .ok (.aload_n 0, 1) := by decide +kernel
theorem dX8_cell_47 : decode cX8_cell 47 = .ok (.getfield 28, 3) := by decide +kernel
theorem dX8_cell_50 : decode cX8_cell 50 = .ok (.bipush 6, 2) := by decide +kernel
theorem dX8_cell_52 : decode cX8_cell 52 = .ok (.iload_n 1, 1) := by decide +kernel
theorem dX8_cell_53 : decode cX8_cell 53 = .ok (.imul, 1) := by decide +kernel
theorem dX8_cell_54 : decode cX8_cell 54 = .ok (.iload 5, 2) := by decide +kernel
theorem dX8_cell_56 : decode cX8_cell 56 = .ok (.iadd, 1) := by decide +kernel
theorem dX8_cell_57 : decode cX8_cell 57 = .ok (.iaload, 1) := by decide +kernel
theorem dX8_cell_58 : decode cX8_cell 58 = .ok (.ireturn, 1) := by decide +kernel
theorem dX8_cell_59 : decode cX8_cell 59 = .ok (.iload 4, 2) := by decide +kernel
end
section
theorem dX8_cell_61 : decode cX8_cell 61 = .ok (.bipush 40, 2) := by decide +kernel
theorem dX8_cell_63 : decode cX8_cell 63 = .ok (.aload_n 0, 1) := by decide +kernel
theorem dX8_cell_64 : decode cX8_cell 64 = .ok (.getfield 40, 3) := by decide +kernel
theorem dX8_cell_67 : decode cX8_cell 67 = .ok (.bipush 6, 2) := by decide +kernel
theorem dX8_cell_69 : decode cX8_cell 69 = .ok (.iload_n 1, 1) := by decide +kernel
theorem dX8_cell_70 : decode cX8_cell 70 = .ok (.imul, 1) := by decide +kernel
theorem dX8_cell_71 : decode cX8_cell 71 = .ok (.iconst 3, 1) := by decide +kernel
theorem dX8_cell_72 : decode cX8_cell 72 = .ok (.iadd, 1) := by decide +kernel
theorem dX8_cell_73 : decode cX8_cell 73 = .ok (.iaload, 1) := by decide +kernel
theorem dX8_cell_74 : decode cX8_cell 74 = .ok (.invokestatic 177, 3) := by decide +kernel
theorem dX8_cell_77 : decode cX8_cell 77 = .ok (.if_icmp .ge 25, 3) := by decide +kernel
theorem dX8_cell_80 : decode cX8_cell 80 = .ok (.aload_n 0, 1) := by decide +kernel
theorem dX8_cell_81 : decode cX8_cell 81 = .ok (.getfield 37, 3) := by decide +kernel
theorem dX8_cell_84 : decode cX8_cell 84 = .ok (.sipush 240, 3) := by decide +kernel
theorem dX8_cell_87 : decode cX8_cell 87 = .ok (.iload_n 1, 1) := by decide +kernel
theorem dX8_cell_88 : decode cX8_cell 88 = .ok (.imul, 1) := by decide +kernel
theorem dX8_cell_89 : decode cX8_cell 89 = .ok (.bipush 6, 2) := by decide +kernel
theorem dX8_cell_91 : decode cX8_cell 91 = .ok (.iload 4, 2) := by decide +kernel
theorem dX8_cell_93 : decode cX8_cell 93 = .ok (.imul, 1) := by decide +kernel
theorem dX8_cell_94 : decode cX8_cell 94 = .ok (.iadd, 1) := by decide +kernel
theorem dX8_cell_95 : decode cX8_cell 95 = .ok (.iload 5, 2) := by decide +kernel
theorem dX8_cell_97 : decode cX8_cell 97 = .ok (.iadd, 1) := by decide +kernel
theorem dX8_cell_98 : decode cX8_cell 98 = .ok (.iaload, 1) := by decide +kernel
theorem dX8_cell_99 : decode cX8_cell 99 = .ok (.goto 6, 3) := by decide +kernel
theorem dX8_cell_102 : decode cX8_cell 102 = .ok (.sipush (-10009), 3) := by decide +kernel
theorem dX8_cell_105 : decode cX8_cell 105 = .ok (.ireturn, 1) := by decide +kernel
theorem dX8_runsBoth_0 : decode cX8_runsBoth 0 = .ok (.aload_n 0, 1) := by decide +kernel
theorem dX8_runsBoth_1 : decode cX8_runsBoth 1 = .ok (.iconst 0, 1) := by decide +kernel
theorem dX8_runsBoth_2 : decode cX8_runsBoth 2 = .ok (.iload_n 1, 1) := by decide +kernel
theorem dX8_runsBoth_3 : decode cX8_runsBoth 3 = .ok (.iload_n 2, 1) := by decide +kernel
theorem dX8_runsBoth_4 : decode cX8_runsBoth 4 = .ok (.invokevirtual 174, 3) := by decide +kernel
theorem dX8_runsBoth_7 : decode cX8_runsBoth 7 = .ok (.aload_n 0, 1) := by decide +kernel
theorem dX8_runsBoth_8 : decode cX8_runsBoth 8 = .ok (.iconst 1, 1) := by decide +kernel
theorem dX8_runsBoth_9 : decode cX8_runsBoth 9 = .ok (.iload_n 1, 1) := by decide +kernel
theorem dX8_runsBoth_10 : decode cX8_runsBoth 10 = .ok (.iload_n 2, 1) := by decide +kernel
theorem dX8_runsBoth_11 : decode cX8_runsBoth 11 = .ok (.invokevirtual 174, 3) := by decide +kernel
theorem dX8_runsBoth_14 : decode cX8_runsBoth 14 = .ok (.return_, 1) := by decide +kernel
theorem dX8_pairMany_0 : decode cX8_pairMany 0 = .ok (.bipush 40, 2) := by decide +kernel
theorem dX8_pairMany_2 : decode cX8_pairMany 2 = .ok (.aload_n 0, 1) := by decide +kernel
theorem dX8_pairMany_3 : decode cX8_pairMany 3 = .ok (.getfield 40, 3) := by decide +kernel
theorem dX8_pairMany_6 : decode cX8_pairMany 6 = .ok (.iconst 3, 1) := by decide +kernel
theorem dX8_pairMany_7 : decode cX8_pairMany 7 = .ok (.iaload, 1) := by decide +kernel
theorem dX8_pairMany_8 : decode cX8_pairMany 8 = .ok (.aload_n 0, 1) := by decide +kernel
theorem dX8_pairMany_9 : decode cX8_pairMany 9 = .ok (.getfield 40, 3) := by decide +kernel
theorem dX8_pairMany_12 : decode cX8_pairMany 12 = .ok (.bipush 9, 2) := by decide +kernel
theorem dX8_pairMany_14 : decode cX8_pairMany 14 = .ok (.iaload, 1) := by decide +kernel
theorem dX8_pairMany_15 : decode cX8_pairMany 15 = .ok (.invokestatic 177, 3) := by decide +kernel
theorem dX8_pairMany_18 : decode cX8_pairMany 18 = .ok (.invokestatic 177, 3) := by decide +kernel
theorem dX8_pairMany_21 : decode cX8_pairMany 21 = .ok (.ireturn, 1) := by decide +kernel
theorem dX8_leadOf_0 : decode cX8_leadOf 0 = .ok (.aload_n 0, 1) := by decide +kernel
theorem dX8_leadOf_1 : decode cX8_leadOf 1 = .ok (.getfield 34, 3) := by decide +kernel
theorem dX8_leadOf_4 : decode cX8_leadOf 4 = .ok (.iload_n 1, 1) := by decide +kernel
theorem dX8_leadOf_5 : decode cX8_leadOf 5 = .ok (.iaload, 1) := by decide +kernel
theorem dX8_leadOf_6 : decode cX8_leadOf 6 = .ok (.aload_n 0, 1) := by decide +kernel
theorem dX8_leadOf_7 : decode cX8_leadOf 7 = .ok (.getfield 34, 3) := by decide +kernel
theorem dX8_leadOf_10 : decode cX8_leadOf 10 = .ok (.bipush 40, 2) := by decide +kernel
theorem dX8_leadOf_12 : decode cX8_leadOf 12 = .ok (.iload_n 1, 1) := by decide +kernel
theorem dX8_leadOf_13 : decode cX8_leadOf 13 = .ok (.iadd, 1) := by decide +kernel
theorem dX8_leadOf_14 : decode cX8_leadOf 14 = .ok (.iaload, 1) := by decide +kernel
theorem dX8_leadOf_15 : decode cX8_leadOf 15 = .ok (.isub, 1) := by decide +kernel
theorem dX8_leadOf_16 : decode cX8_leadOf 16 = .ok (.ireturn, 1) := by decide +kernel
theorem dX8_greatestLead_0 : decode cX8_greatestLead 0 = .ok (.iconst 0, 1) := by decide +kernel
theorem dX8_greatestLead_1 : decode cX8_greatestLead 1 = .ok (.istore_n 1, 1) := by decide +kernel
theorem dX8_greatestLead_2 : decode cX8_greatestLead 2 = .ok (.iconst 0, 1) := by decide +kernel
theorem dX8_greatestLead_3 : decode cX8_greatestLead 3 = .ok (.istore_n 2, 1) := by decide +kernel
theorem dX8_greatestLead_4 : decode cX8_greatestLead 4 = .ok (.iload_n 2, 1) := by decide +kernel
theorem dX8_greatestLead_5 : decode cX8_greatestLead 5 = .ok (.aload_n 0, 1) := by decide +kernel
theorem dX8_greatestLead_6 : decode cX8_greatestLead 6 = .ok (.invokevirtual 183, 3) := by decide +kernel
theorem dX8_greatestLead_9 : decode cX8_greatestLead 9 = .ok (.if_icmp .ge 43, 3) := by decide +kernel
theorem dX8_greatestLead_12 : decode cX8_greatestLead 12 = .ok (.aload_n 0, 1) := by decide +kernel
theorem dX8_greatestLead_13 : decode cX8_greatestLead 13 = .ok (.iload_n 2, 1) := by decide +kernel
theorem dX8_greatestLead_14 : decode cX8_greatestLead 14 = .ok (.invokevirtual 186, 3) := by decide +kernel
theorem dX8_greatestLead_17 : decode cX8_greatestLead 17 = .ok (.ifCond .ge 12, 3) := by decide +kernel
theorem dX8_greatestLead_20 : decode cX8_greatestLead 20 = .ok (.aload_n 0, 1) := by decide +kernel
theorem dX8_greatestLead_21 : decode cX8_greatestLead 21 = .ok (.iload_n 2, 1) := by decide +kernel
theorem dX8_greatestLead_22 : decode cX8_greatestLead 22 = .ok (.invokevirtual 186, 3) := by decide +kernel
theorem dX8_greatestLead_25 : decode cX8_greatestLead 25 = .ok (.ineg, 1) := by decide +kernel
theorem dX8_greatestLead_26 : decode cX8_greatestLead 26 = .ok (.goto 8, 3) := by decide +kernel
theorem dX8_greatestLead_29 : decode cX8_greatestLead 29 = .ok (.aload_n 0, 1) := by decide +kernel
theorem dX8_greatestLead_30 : decode cX8_greatestLead 30 = .ok (.iload_n 2, 1) := by decide +kernel
theorem dX8_greatestLead_31 : decode cX8_greatestLead 31 = .ok (.invokevirtual 186, 3) := by decide +kernel
theorem dX8_greatestLead_34 : decode cX8_greatestLead 34 = .ok (.istore_n 3, 1) := by decide +kernel
theorem dX8_greatestLead_35 : decode cX8_greatestLead 35 = .ok (.iload_n 3, 1) := by decide +kernel
theorem dX8_greatestLead_36 : decode cX8_greatestLead 36 = .ok (.iload_n 1, 1) := by decide +kernel
theorem dX8_greatestLead_37 : decode cX8_greatestLead 37 = .ok (.if_icmp .le 7, 3) := by decide +kernel
theorem dX8_greatestLead_40 : decode cX8_greatestLead 40 = .ok (.iload_n 3, 1) := by decide +kernel
theorem dX8_greatestLead_41 : decode cX8_greatestLead 41 = .ok (.goto 4, 3) := by decide +kernel
theorem dX8_greatestLead_44 : decode cX8_greatestLead 44 = .ok (.iload_n 1, 1) := by decide +kernel
theorem dX8_greatestLead_45 : decode cX8_greatestLead 45 = .ok (.istore_n 1, 1) := by decide +kernel
theorem dX8_greatestLead_46 : decode cX8_greatestLead 46 = .ok (.iinc 2 1, 3) := by decide +kernel
theorem dX8_greatestLead_49 : decode cX8_greatestLead 49 = .ok (.goto (-45), 3) := by decide +kernel
theorem dX8_greatestLead_52 : decode cX8_greatestLead 52 = .ok (.iload_n 1, 1) := by decide +kernel
theorem dX8_greatestLead_53 : decode cX8_greatestLead 53 = .ok (.ireturn, 1) := by decide +kernel
theorem dX8_isEqual_0 : decode cX8_isEqual 0 = .ok (.aload_n 0, 1) := by decide +kernel
theorem dX8_isEqual_1 : decode cX8_isEqual 1 = .ok (.getfield 37, 3) := by decide +kernel
theorem dX8_isEqual_4 : decode cX8_isEqual 4 = .ok (.bipush 6, 2) := by decide +kernel
theorem dX8_isEqual_6 : decode cX8_isEqual 6 = .ok (.iload_n 1, 1) := by decide +kernel
theorem dX8_isEqual_7 : decode cX8_isEqual 7 = .ok (.imul, 1) := by decide +kernel
theorem dX8_isEqual_8 : decode cX8_isEqual 8 = .ok (.iload_n 2, 1) := by decide +kernel
theorem dX8_isEqual_9 : decode cX8_isEqual 9 = .ok (.iadd, 1) := by decide +kernel
theorem dX8_isEqual_10 : decode cX8_isEqual 10 = .ok (.iaload, 1) := by decide +kernel
theorem dX8_isEqual_11 : decode cX8_isEqual 11 = .ok (.aload_n 0, 1) := by decide +kernel
theorem dX8_isEqual_12 : decode cX8_isEqual 12 = .ok (.getfield 37, 3) := by decide +kernel
theorem dX8_isEqual_15 : decode cX8_isEqual 15 = .ok (.sipush 240, 3) := by decide +kernel
theorem dX8_isEqual_18 : decode cX8_isEqual 18 = .ok (.bipush 6, 2) := by decide +kernel
theorem dX8_isEqual_20 : decode cX8_isEqual 20 = .ok (.iload_n 1, 1) := by decide +kernel
theorem dX8_isEqual_21 : decode cX8_isEqual 21 = .ok (.imul, 1) := by decide +kernel
theorem dX8_isEqual_22 : decode cX8_isEqual 22 = .ok (.iadd, 1) := by decide +kernel
theorem dX8_isEqual_23 : decode cX8_isEqual 23 = .ok (.iload_n 3, 1) := by decide +kernel
theorem dX8_isEqual_24 : decode cX8_isEqual 24 = .ok (.iadd, 1) := by decide +kernel
theorem dX8_isEqual_25 : decode cX8_isEqual 25 = .ok (.iaload, 1) := by decide +kernel
theorem dX8_isEqual_26 : decode cX8_isEqual 26 = .ok (.if_icmp .ne 7, 3) := by decide +kernel
theorem dX8_isEqual_29 : decode cX8_isEqual 29 = .ok (.iconst 1, 1) := by decide +kernel
theorem dX8_isEqual_30 : decode cX8_isEqual 30 = .ok (.goto 4, 3) := by decide +kernel
theorem dX8_isEqual_33 : decode cX8_isEqual 33 = .ok (.iconst 0, 1) := by decide +kernel
theorem dX8_isEqual_34 : decode cX8_isEqual 34 = .ok (.ireturn, 1) := by decide +kernel
theorem dX8_allEqual_0 : decode cX8_allEqual 0 = .ok (.iconst 0, 1) := by decide +kernel
theorem dX8_allEqual_1 : decode cX8_allEqual 1 = .ok (.istore_n 1, 1) := by decide +kernel
theorem dX8_allEqual_2 : decode cX8_allEqual 2 = .ok (.iconst 0, 1) := by decide +kernel
theorem dX8_allEqual_3 : decode cX8_allEqual 3 = .ok (.istore_n 2, 1) := by decide +kernel
theorem dX8_allEqual_4 : decode cX8_allEqual 4 = .ok (.iload_n 2, 1) := by decide +kernel
theorem dX8_allEqual_5 : decode cX8_allEqual 5 = .ok (.aload_n 0, 1) := by decide +kernel
theorem dX8_allEqual_6 : decode cX8_allEqual 6 = .ok (.invokevirtual 183, 3) := by decide +kernel
theorem dX8_allEqual_9 : decode cX8_allEqual 9 = .ok (.if_icmp .ge 61, 3) := by decide +kernel
theorem dX8_allEqual_12 : decode cX8_allEqual 12 = .ok (.iconst 1, 1) := by decide +kernel
theorem dX8_allEqual_13 : decode cX8_allEqual 13 = .ok (.istore_n 3, 1) := by decide +kernel
theorem dX8_allEqual_14 : decode cX8_allEqual 14 = .ok (.iconst 0, 1) := by decide +kernel
theorem dX8_allEqual_15 : decode cX8_allEqual 15 = .ok (.istore 4, 2) := by decide +kernel
theorem dX8_allEqual_17 : decode cX8_allEqual 17 = .ok (.iload 4, 2) := by decide +kernel
theorem dX8_allEqual_19 : decode cX8_allEqual 19 = .ok (.bipush 6, 2) := by decide +kernel
theorem dX8_allEqual_21 : decode cX8_allEqual 21 = .ok (.if_icmp .ge 31, 3) := by decide +kernel
theorem dX8_allEqual_24 : decode cX8_allEqual 24 = .ok (.iload_n 3, 1) := by decide +kernel
theorem dX8_allEqual_25 : decode cX8_allEqual 25 = .ok (.ifCond .eq 19, 3) := by decide +kernel
theorem dX8_allEqual_28 : decode cX8_allEqual 28 = .ok (.aload_n 0, 1) := by decide +kernel
theorem dX8_allEqual_29 : decode cX8_allEqual 29 = .ok (.iload_n 2, 1) := by decide +kernel
theorem dX8_allEqual_30 : decode cX8_allEqual 30 = .ok (.iload 4, 2) := by decide +kernel
theorem dX8_allEqual_32 : decode cX8_allEqual 32 = .ok (.iload 4, 2) := by decide +kernel
theorem dX8_allEqual_34 : decode cX8_allEqual 34 = .ok (.invokevirtual 189, 3) := by decide +kernel
theorem dX8_allEqual_37 : decode cX8_allEqual 37 = .ok (.ifCond .eq 7, 3) := by decide +kernel
theorem dX8_allEqual_40 : decode cX8_allEqual 40 = .ok (.iconst 1, 1) := by decide +kernel
theorem dX8_allEqual_41 : decode cX8_allEqual 41 = .ok (.goto 4, 3) := by decide +kernel
theorem dX8_allEqual_44 : decode cX8_allEqual 44 = .ok (.iconst 0, 1) := by decide +kernel
theorem dX8_allEqual_45 : decode cX8_allEqual 45 = .ok (.istore_n 3, 1) := by decide +kernel
theorem dX8_allEqual_46 : decode cX8_allEqual 46 = .ok (.iinc 4 1, 3) := by decide +kernel
theorem dX8_allEqual_49 : decode cX8_allEqual 49 = .ok (.goto (-32), 3) := by decide +kernel
theorem dX8_allEqual_52 : decode cX8_allEqual 52 = .ok (.iload_n 1, 1) := by decide +kernel
theorem dX8_allEqual_53 : decode cX8_allEqual 53 = .ok (.iload_n 3, 1) := by decide +kernel
theorem dX8_allEqual_54 : decode cX8_allEqual 54 = .ok (.ifCond .eq 7, 3) := by decide +kernel
theorem dX8_allEqual_57 : decode cX8_allEqual 57 = .ok (.iconst 1, 1) := by decide +kernel
theorem dX8_allEqual_58 : decode cX8_allEqual 58 = .ok (.goto 4, 3) := by decide +kernel
theorem dX8_allEqual_61 : decode cX8_allEqual 61 = .ok (.iconst 0, 1) := by decide +kernel
theorem dX8_allEqual_62 : decode cX8_allEqual 62 = .ok (.iadd, 1) := by decide +kernel
theorem dX8_allEqual_63 : decode cX8_allEqual 63 = .ok (.istore_n 1, 1) := by decide +kernel
theorem dX8_allEqual_64 : decode cX8_allEqual 64 = .ok (.iinc 2 1, 3) := by decide +kernel
theorem dX8_allEqual_67 : decode cX8_allEqual 67 = .ok (.goto (-63), 3) := by decide +kernel
theorem dX8_allEqual_70 : decode cX8_allEqual 70 = .ok (.iload_n 1, 1) := by decide +kernel
theorem dX8_allEqual_71 : decode cX8_allEqual 71 = .ok (.ireturn, 1) := by decide +kernel
theorem dX8_pairs_0 : decode cX8_pairs 0 = .ok (.iload_n 1, 1) := by decide +kernel
theorem dX8_pairs_1 : decode cX8_pairs 1 = .ok (.iload_n 2, 1) := by decide +kernel
theorem dX8_pairs_2 : decode cX8_pairs 2 = .ok (.invokestatic 171, 3) := by decide +kernel
theorem dX8_pairs_5 : decode cX8_pairs 5 = .ok (.ifCond .eq 12, 3) := by decide +kernel
theorem dX8_pairs_8 : decode cX8_pairs 8 = .ok (.iload_n 3, 1) := by decide +kernel
theorem dX8_pairs_9 : decode cX8_pairs 9 = .ok (.iconst 0, 1) := by decide +kernel
theorem dX8_pairs_10 : decode cX8_pairs 10 = .ok (.iconst 3, 1) := by decide +kernel
theorem dX8_pairs_11 : decode cX8_pairs 11 = .ok (.invokestatic 61, 3) := by decide +kernel
theorem dX8_pairs_14 : decode cX8_pairs 14 = .ok (.ifCond .ne 7, 3) := by decide +kernel
theorem dX8_pairs_17 : decode cX8_pairs 17 = .ok (.sipush (-10001), 3) := by decide +kernel
theorem dX8_pairs_20 : decode cX8_pairs 20 = .ok (.ireturn, 1) := by decide +kernel
theorem dX8_pairs_21 : decode cX8_pairs 21 = .ok (.aload_n 0, 1) := by decide +kernel
theorem dX8_pairs_22 : decode cX8_pairs 22 = .ok (.iload_n 1, 1) := by decide +kernel
theorem dX8_pairs_23 : decode cX8_pairs 23 = .ok (.iload_n 2, 1) := by decide +kernel
theorem dX8_pairs_24 : decode cX8_pairs 24 = .ok (.invokevirtual 192, 3) := by decide +kernel
theorem dX8_pairs_27 : decode cX8_pairs 27 = .ok (.aload_n 0, 1) := by decide +kernel
theorem dX8_pairs_28 : decode cX8_pairs 28 = .ok (.invokevirtual 183, 3) := by decide +kernel
theorem dX8_pairs_31 : decode cX8_pairs 31 = .ok (.istore 4, 2) := by decide +kernel
theorem dX8_pairs_33 : decode cX8_pairs 33 = .ok (.iload_n 3, 1) := by decide +kernel
theorem dX8_pairs_34 : decode cX8_pairs 34 = .ok (.ifCond .ne 6, 3) := by decide +kernel
theorem dX8_pairs_37 : decode cX8_pairs 37 = .ok (.iload 4, 2) := by decide +kernel
theorem dX8_pairs_39 : decode cX8_pairs 39 = .ok (.ireturn, 1) := by decide +kernel
theorem dX8_pairs_40 : decode cX8_pairs 40 = .ok (.iload_n 3, 1) := by decide +kernel
theorem dX8_pairs_41 : decode cX8_pairs 41 = .ok (.iconst 3, 1) := by decide +kernel
theorem dX8_pairs_42 : decode cX8_pairs 42 = .ok (.if_icmp .ne 8, 3) := by decide +kernel
theorem dX8_pairs_45 : decode cX8_pairs 45 = .ok (.aload_n 0, 1) := by decide +kernel
theorem dX8_pairs_46 : decode cX8_pairs 46 = .ok (.invokevirtual 195, 3) := by decide +kernel
theorem dX8_pairs_49 : decode cX8_pairs 49 = .ok (.ireturn, 1) := by decide +kernel
theorem dX8_pairs_50 : decode cX8_pairs 50 = .ok (.iload 4, 2) := by decide +kernel
theorem dX8_pairs_52 : decode cX8_pairs 52 = .ok (.ifCond .ne 9, 3) := by decide +kernel
theorem dX8_pairs_55 : decode cX8_pairs 55 = .ok (.sipush (-10009), 3) := by decide +kernel
theorem dX8_pairs_58 : decode cX8_pairs 58 = .ok (.goto 23, 3) := by decide +kernel
theorem dX8_pairs_61 : decode cX8_pairs 61 = .ok (.iload_n 3, 1) := by decide +kernel
theorem dX8_pairs_62 : decode cX8_pairs 62 = .ok (.iconst 1, 1) := by decide +kernel
theorem dX8_pairs_63 : decode cX8_pairs 63 = .ok (.if_icmp .ne 10, 3) := by decide +kernel
theorem dX8_pairs_66 : decode cX8_pairs 66 = .ok (.aload_n 0, 1) := by decide +kernel
theorem dX8_pairs_67 : decode cX8_pairs 67 = .ok (.invokevirtual 198, 3) := by decide +kernel
theorem dX8_pairs_70 : decode cX8_pairs 70 = .ok (.goto 11, 3) := by decide +kernel
theorem dX8_pairs_73 : decode cX8_pairs 73 = .ok (.aload_n 0, 1) := by decide +kernel
theorem dX8_pairs_74 : decode cX8_pairs 74 = .ok (.iload 4, 2) := by decide +kernel
theorem dX8_pairs_76 : decode cX8_pairs 76 = .ok (.iconst 1, 1) := by decide +kernel
theorem dX8_pairs_77 : decode cX8_pairs 77 = .ok (.isub, 1) := by decide +kernel
theorem dX8_pairs_78 : decode cX8_pairs 78 = .ok (.invokevirtual 186, 3) := by decide +kernel
theorem dX8_pairs_81 : decode cX8_pairs 81 = .ok (.ireturn, 1) := by decide +kernel
theorem dX8_equalTo_0 : decode cX8_equalTo 0 = .ok (.iconst 0, 1) := by decide +kernel
theorem dX8_equalTo_1 : decode cX8_equalTo 1 = .ok (.istore_n 2, 1) := by decide +kernel
theorem dX8_equalTo_2 : decode cX8_equalTo 2 = .ok (.iconst 0, 1) := by decide +kernel
theorem dX8_equalTo_3 : decode cX8_equalTo 3 = .ok (.istore_n 3, 1) := by decide +kernel
theorem dX8_equalTo_4 : decode cX8_equalTo 4 = .ok (.iload_n 3, 1) := by decide +kernel
theorem dX8_equalTo_5 : decode cX8_equalTo 5 = .ok (.bipush 6, 2) := by decide +kernel
theorem dX8_equalTo_7 : decode cX8_equalTo 7 = .ok (.if_icmp .ge 68, 3) := by decide +kernel
theorem dX8_equalTo_10 : decode cX8_equalTo 10 = .ok (.iconst 1, 1) := by decide +kernel
theorem dX8_equalTo_11 : decode cX8_equalTo 11 = .ok (.istore 4, 2) := by decide +kernel
theorem dX8_equalTo_13 : decode cX8_equalTo 13 = .ok (.iconst 0, 1) := by decide +kernel
theorem dX8_equalTo_14 : decode cX8_equalTo 14 = .ok (.istore 5, 2) := by decide +kernel
theorem dX8_equalTo_16 : decode cX8_equalTo 16 = .ok (.iload 5, 2) := by decide +kernel
theorem dX8_equalTo_18 : decode cX8_equalTo 18 = .ok (.aload_n 0, 1) := by decide +kernel
theorem dX8_equalTo_19 : decode cX8_equalTo 19 = .ok (.invokevirtual 183, 3) := by decide +kernel
theorem dX8_equalTo_22 : decode cX8_equalTo 22 = .ok (.if_icmp .ge 32, 3) := by decide +kernel
theorem dX8_equalTo_25 : decode cX8_equalTo 25 = .ok (.iload 4, 2) := by decide +kernel
theorem dX8_equalTo_27 : decode cX8_equalTo 27 = .ok (.ifCond .eq 18, 3) := by decide +kernel
theorem dX8_equalTo_30 : decode cX8_equalTo 30 = .ok (.aload_n 0, 1) := by decide +kernel
theorem dX8_equalTo_31 : decode cX8_equalTo 31 = .ok (.iload 5, 2) := by decide +kernel
theorem dX8_equalTo_33 : decode cX8_equalTo 33 = .ok (.iload_n 1, 1) := by decide +kernel
theorem dX8_equalTo_34 : decode cX8_equalTo 34 = .ok (.iload_n 3, 1) := by decide +kernel
theorem dX8_equalTo_35 : decode cX8_equalTo 35 = .ok (.invokevirtual 189, 3) := by decide +kernel
theorem dX8_equalTo_38 : decode cX8_equalTo 38 = .ok (.ifCond .eq 7, 3) := by decide +kernel
theorem dX8_equalTo_41 : decode cX8_equalTo 41 = .ok (.iconst 1, 1) := by decide +kernel
theorem dX8_equalTo_42 : decode cX8_equalTo 42 = .ok (.goto 4, 3) := by decide +kernel
theorem dX8_equalTo_45 : decode cX8_equalTo 45 = .ok (.iconst 0, 1) := by decide +kernel
theorem dX8_equalTo_46 : decode cX8_equalTo 46 = .ok (.istore 4, 2) := by decide +kernel
theorem dX8_equalTo_48 : decode cX8_equalTo 48 = .ok (.iinc 5 1, 3) := by decide +kernel
theorem dX8_equalTo_51 : decode cX8_equalTo 51 = .ok (.goto (-35), 3) := by decide +kernel
theorem dX8_equalTo_54 : decode cX8_equalTo 54 = .ok (.iload_n 2, 1) := by decide +kernel
theorem dX8_equalTo_55 : decode cX8_equalTo 55 = .ok (.iload 4, 2) := by decide +kernel
theorem dX8_equalTo_57 : decode cX8_equalTo 57 = .ok (.ifCond .eq 9, 3) := by decide +kernel
theorem dX8_equalTo_60 : decode cX8_equalTo 60 = .ok (.iconst 1, 1) := by decide +kernel
theorem dX8_equalTo_61 : decode cX8_equalTo 61 = .ok (.iload_n 3, 1) := by decide +kernel
theorem dX8_equalTo_62 : decode cX8_equalTo 62 = .ok (.ishl, 1) := by decide +kernel
theorem dX8_equalTo_63 : decode cX8_equalTo 63 = .ok (.goto 4, 3) := by decide +kernel
theorem dX8_equalTo_66 : decode cX8_equalTo 66 = .ok (.iconst 0, 1) := by decide +kernel
theorem dX8_equalTo_67 : decode cX8_equalTo 67 = .ok (.ior, 1) := by decide +kernel
theorem dX8_equalTo_68 : decode cX8_equalTo 68 = .ok (.istore_n 2, 1) := by decide +kernel
theorem dX8_equalTo_69 : decode cX8_equalTo 69 = .ok (.iinc 3 1, 3) := by decide +kernel
theorem dX8_equalTo_72 : decode cX8_equalTo 72 = .ok (.goto (-68), 3) := by decide +kernel
theorem dX8_equalTo_75 : decode cX8_equalTo 75 = .ok (.iload_n 2, 1) := by decide +kernel
theorem dX8_equalTo_76 : decode cX8_equalTo 76 = .ok (.ireturn, 1) := by decide +kernel
theorem dX8_equal_0 : decode cX8_equal 0 = .ok (.iload_n 1, 1) := by decide +kernel
theorem dX8_equal_1 : decode cX8_equal 1 = .ok (.iload_n 2, 1) := by decide +kernel
theorem dX8_equal_2 : decode cX8_equal 2 = .ok (.invokestatic 171, 3) := by decide +kernel
theorem dX8_equal_5 : decode cX8_equal 5 = .ok (.ifCond .eq 10, 3) := by decide +kernel
theorem dX8_equal_8 : decode cX8_equal 8 = .ok (.iload_n 3, 1) := by decide +kernel
theorem dX8_equal_9 : decode cX8_equal 9 = .ok (.invokestatic 180, 3) := by decide +kernel
theorem dX8_equal_12 : decode cX8_equal 12 = .ok (.ifCond .ne 7, 3) := by decide +kernel
theorem dX8_equal_15 : decode cX8_equal 15 = .ok (.sipush (-10001), 3) := by decide +kernel
theorem dX8_equal_18 : decode cX8_equal 18 = .ok (.ireturn, 1) := by decide +kernel
theorem dX8_equal_19 : decode cX8_equal 19 = .ok (.aload_n 0, 1) := by decide +kernel
theorem dX8_equal_20 : decode cX8_equal 20 = .ok (.iload_n 1, 1) := by decide +kernel
theorem dX8_equal_21 : decode cX8_equal 21 = .ok (.iload_n 2, 1) := by decide +kernel
theorem dX8_equal_22 : decode cX8_equal 22 = .ok (.invokevirtual 192, 3) := by decide +kernel
theorem dX8_equal_25 : decode cX8_equal 25 = .ok (.aload_n 0, 1) := by decide +kernel
theorem dX8_equal_26 : decode cX8_equal 26 = .ok (.iload_n 3, 1) := by decide +kernel
theorem dX8_equal_27 : decode cX8_equal 27 = .ok (.invokevirtual 201, 3) := by decide +kernel
theorem dX8_equal_30 : decode cX8_equal 30 = .ok (.ireturn, 1) := by decide +kernel
theorem dX8_firstDifference_0 : decode cX8_firstDifference 0 = .ok (.bipush 40, 2) := by decide +kernel
theorem dX8_firstDifference_2 : decode cX8_firstDifference 2 = .ok (.aload_n 0, 1) := by decide +kernel
theorem dX8_firstDifference_3 : decode cX8_firstDifference 3 = .ok (.getfield 40, 3) := by decide +kernel
theorem dX8_firstDifference_6 : decode cX8_firstDifference 6 = .ok (.iconst 2, 1) := by decide +kernel
theorem dX8_firstDifference_7 : decode cX8_firstDifference 7 = .ok (.iaload, 1) := by decide +kernel
theorem dX8_firstDifference_8 : decode cX8_firstDifference 8 = .ok (.invokestatic 177, 3) := by decide +kernel
theorem dX8_firstDifference_11 : decode cX8_firstDifference 11 = .ok (.istore_n 1, 1) := by decide +kernel
theorem dX8_firstDifference_12 : decode cX8_firstDifference 12 = .ok (.bipush 40, 2) := by decide +kernel
theorem dX8_firstDifference_14 : decode cX8_firstDifference 14 = .ok (.aload_n 0, 1) := by decide +kernel
theorem dX8_firstDifference_15 : decode cX8_firstDifference 15 = .ok (.getfield 40, 3) := by decide +kernel
theorem dX8_firstDifference_18 : decode cX8_firstDifference 18 = .ok (.bipush 8, 2) := by decide +kernel
theorem dX8_firstDifference_20 : decode cX8_firstDifference 20 = .ok (.iaload, 1) := by decide +kernel
theorem dX8_firstDifference_21 : decode cX8_firstDifference 21 = .ok (.invokestatic 177, 3) := by decide +kernel
theorem dX8_firstDifference_24 : decode cX8_firstDifference 24 = .ok (.istore_n 2, 1) := by decide +kernel
theorem dX8_firstDifference_25 : decode cX8_firstDifference 25 = .ok (.iconst 0, 1) := by decide +kernel
theorem dX8_firstDifference_26 : decode cX8_firstDifference 26 = .ok (.istore_n 3, 1) := by decide +kernel
theorem dX8_firstDifference_27 : decode cX8_firstDifference 27 = .ok (.iload_n 3, 1) := by decide +kernel
theorem dX8_firstDifference_28 : decode cX8_firstDifference 28 = .ok (.iload_n 1, 1) := by decide +kernel
theorem dX8_firstDifference_29 : decode cX8_firstDifference 29 = .ok (.if_icmp .lt 8, 3) := by decide +kernel
theorem dX8_firstDifference_32 : decode cX8_firstDifference 32 = .ok (.iload_n 3, 1) := by decide +kernel
theorem dX8_firstDifference_33 : decode cX8_firstDifference 33 = .ok (.iload_n 2, 1) := by decide +kernel
theorem dX8_firstDifference_34 : decode cX8_firstDifference 34 = .ok (.if_icmp .ge 39, 3) := by decide +kernel
theorem dX8_firstDifference_37 : decode cX8_firstDifference 37 = .ok (.iload_n 3, 1) := by decide +kernel
theorem dX8_firstDifference_38 : decode cX8_firstDifference 38 = .ok (.iload_n 1, 1) := by decide +kernel
theorem dX8_firstDifference_39 : decode cX8_firstDifference 39 = .ok (.if_icmp .ge 26, 3) := by decide +kernel
theorem dX8_firstDifference_42 : decode cX8_firstDifference 42 = .ok (.iload_n 3, 1) := by decide +kernel
theorem dX8_firstDifference_43 : decode cX8_firstDifference 43 = .ok (.iload_n 2, 1) := by decide +kernel
theorem dX8_firstDifference_44 : decode cX8_firstDifference 44 = .ok (.if_icmp .ge 21, 3) := by decide +kernel
theorem dX8_firstDifference_47 : decode cX8_firstDifference 47 = .ok (.aload_n 0, 1) := by decide +kernel
theorem dX8_firstDifference_48 : decode cX8_firstDifference 48 = .ok (.getfield 31, 3) := by decide +kernel
theorem dX8_firstDifference_51 : decode cX8_firstDifference 51 = .ok (.iload_n 3, 1) := by decide +kernel
theorem dX8_firstDifference_52 : decode cX8_firstDifference 52 = .ok (.iaload, 1) := by decide +kernel
theorem dX8_firstDifference_53 : decode cX8_firstDifference 53 = .ok (.aload_n 0, 1) := by decide +kernel
theorem dX8_firstDifference_54 : decode cX8_firstDifference 54 = .ok (.getfield 31, 3) := by decide +kernel
theorem dX8_firstDifference_57 : decode cX8_firstDifference 57 = .ok (.bipush 40, 2) := by decide +kernel
theorem dX8_firstDifference_59 : decode cX8_firstDifference 59 = .ok (.iload_n 3, 1) := by decide +kernel
theorem dX8_firstDifference_60 : decode cX8_firstDifference 60 = .ok (.iadd, 1) := by decide +kernel
theorem dX8_firstDifference_61 : decode cX8_firstDifference 61 = .ok (.iaload, 1) := by decide +kernel
theorem dX8_firstDifference_62 : decode cX8_firstDifference 62 = .ok (.if_icmp .eq 5, 3) := by decide +kernel
theorem dX8_firstDifference_65 : decode cX8_firstDifference 65 = .ok (.iload_n 3, 1) := by decide +kernel
theorem dX8_firstDifference_66 : decode cX8_firstDifference 66 = .ok (.ireturn, 1) := by decide +kernel
theorem dX8_firstDifference_67 : decode cX8_firstDifference 67 = .ok (.iinc 3 1, 3) := by decide +kernel
theorem dX8_firstDifference_70 : decode cX8_firstDifference 70 = .ok (.goto (-43), 3) := by decide +kernel
theorem dX8_firstDifference_73 : decode cX8_firstDifference 73 = .ok (.sipush (-10009), 3) := by decide +kernel
theorem dX8_firstDifference_76 : decode cX8_firstDifference 76 = .ok (.ireturn, 1) := by decide +kernel
theorem dX8_difference_0 : decode cX8_difference 0 = .ok (.iload_n 1, 1) := by decide +kernel
theorem dX8_difference_1 : decode cX8_difference 1 = .ok (.iload_n 2, 1) := by decide +kernel
theorem dX8_difference_2 : decode cX8_difference 2 = .ok (.invokestatic 171, 3) := by decide +kernel
theorem dX8_difference_5 : decode cX8_difference 5 = .ok (.ifCond .ne 7, 3) := by decide +kernel
theorem dX8_difference_8 : decode cX8_difference 8 = .ok (.sipush (-10001), 3) := by decide +kernel
theorem dX8_difference_11 : decode cX8_difference 11 = .ok (.ireturn, 1) := by decide +kernel
theorem dX8_difference_12 : decode cX8_difference 12 = .ok (.aload_n 0, 1) := by decide +kernel
theorem dX8_difference_13 : decode cX8_difference 13 = .ok (.iload_n 1, 1) := by decide +kernel
theorem dX8_difference_14 : decode cX8_difference 14 = .ok (.iload_n 2, 1) := by decide +kernel
theorem dX8_difference_15 : decode cX8_difference 15 = .ok (.invokevirtual 192, 3) := by decide +kernel
theorem dX8_difference_18 : decode cX8_difference 18 = .ok (.aload_n 0, 1) := by decide +kernel
theorem dX8_difference_19 : decode cX8_difference 19 = .ok (.invokevirtual 204, 3) := by decide +kernel
theorem dX8_difference_22 : decode cX8_difference 22 = .ok (.ireturn, 1) := by decide +kernel
theorem dX8_agreeOn_0 : decode cX8_agreeOn 0 = .ok (.aload_n 0, 1) := by decide +kernel
theorem dX8_agreeOn_1 : decode cX8_agreeOn 1 = .ok (.iload_n 1, 1) := by decide +kernel
theorem dX8_agreeOn_2 : decode cX8_agreeOn 2 = .ok (.iload_n 2, 1) := by decide +kernel
theorem dX8_agreeOn_3 : decode cX8_agreeOn 3 = .ok (.invokevirtual 192, 3) := by decide +kernel
theorem dX8_agreeOn_6 : decode cX8_agreeOn 6 = .ok (.aload_n 0, 1) := by decide +kernel
theorem dX8_agreeOn_7 : decode cX8_agreeOn 7 = .ok (.getfield 40, 3) := by decide +kernel
theorem dX8_agreeOn_10 : decode cX8_agreeOn 10 = .ok (.iconst 1, 1) := by decide +kernel
theorem dX8_agreeOn_11 : decode cX8_agreeOn 11 = .ok (.iaload, 1) := by decide +kernel
theorem dX8_agreeOn_12 : decode cX8_agreeOn 12 = .ok (.ifCond .ne 43, 3) := by decide +kernel
theorem dX8_agreeOn_15 : decode cX8_agreeOn 15 = .ok (.aload_n 0, 1) := by decide +kernel
theorem dX8_agreeOn_16 : decode cX8_agreeOn 16 = .ok (.getfield 40, 3) := by decide +kernel
theorem dX8_agreeOn_19 : decode cX8_agreeOn 19 = .ok (.bipush 7, 2) := by decide +kernel
theorem dX8_agreeOn_21 : decode cX8_agreeOn 21 = .ok (.iaload, 1) := by decide +kernel
theorem dX8_agreeOn_22 : decode cX8_agreeOn 22 = .ok (.ifCond .ne 33, 3) := by decide +kernel
theorem dX8_agreeOn_25 : decode cX8_agreeOn 25 = .ok (.aload_n 0, 1) := by decide +kernel
theorem dX8_agreeOn_26 : decode cX8_agreeOn 26 = .ok (.getfield 40, 3) := by decide +kernel
theorem dX8_agreeOn_29 : decode cX8_agreeOn 29 = .ok (.iconst 2, 1) := by decide +kernel
theorem dX8_agreeOn_30 : decode cX8_agreeOn 30 = .ok (.iaload, 1) := by decide +kernel
theorem dX8_agreeOn_31 : decode cX8_agreeOn 31 = .ok (.aload_n 0, 1) := by decide +kernel
theorem dX8_agreeOn_32 : decode cX8_agreeOn 32 = .ok (.getfield 40, 3) := by decide +kernel
theorem dX8_agreeOn_35 : decode cX8_agreeOn 35 = .ok (.bipush 8, 2) := by decide +kernel
theorem dX8_agreeOn_37 : decode cX8_agreeOn 37 = .ok (.iaload, 1) := by decide +kernel
theorem dX8_agreeOn_38 : decode cX8_agreeOn 38 = .ok (.if_icmp .ne 17, 3) := by decide +kernel
theorem dX8_agreeOn_41 : decode cX8_agreeOn 41 = .ok (.aload_n 0, 1) := by decide +kernel
theorem dX8_agreeOn_42 : decode cX8_agreeOn 42 = .ok (.invokevirtual 204, 3) := by decide +kernel
theorem dX8_agreeOn_45 : decode cX8_agreeOn 45 = .ok (.sipush (-10009), 3) := by decide +kernel
theorem dX8_agreeOn_48 : decode cX8_agreeOn 48 = .ok (.if_icmp .ne 7, 3) := by decide +kernel
theorem dX8_agreeOn_51 : decode cX8_agreeOn 51 = .ok (.iconst 1, 1) := by decide +kernel
theorem dX8_agreeOn_52 : decode cX8_agreeOn 52 = .ok (.goto 4, 3) := by decide +kernel
theorem dX8_agreeOn_55 : decode cX8_agreeOn 55 = .ok (.iconst 0, 1) := by decide +kernel
theorem dX8_agreeOn_56 : decode cX8_agreeOn 56 = .ok (.ireturn, 1) := by decide +kernel
theorem dX8_agree_0 : decode cX8_agree 0 = .ok (.iload_n 1, 1) := by decide +kernel
theorem dX8_agree_1 : decode cX8_agree 1 = .ok (.bipush (-9), 2) := by decide +kernel
theorem dX8_agree_3 : decode cX8_agree 3 = .ok (.bipush 9, 2) := by decide +kernel
theorem dX8_agree_5 : decode cX8_agree 5 = .ok (.invokestatic 61, 3) := by decide +kernel
theorem dX8_agree_8 : decode cX8_agree 8 = .ok (.ifCond .eq 22, 3) := by decide +kernel
theorem dX8_agree_11 : decode cX8_agree 11 = .ok (.iload_n 2, 1) := by decide +kernel
theorem dX8_agree_12 : decode cX8_agree 12 = .ok (.iload_n 1, 1) := by decide +kernel
theorem dX8_agree_13 : decode cX8_agree 13 = .ok (.bipush 9, 2) := by decide +kernel
theorem dX8_agree_15 : decode cX8_agree 15 = .ok (.invokestatic 61, 3) := by decide +kernel
theorem dX8_agree_18 : decode cX8_agree 18 = .ok (.ifCond .eq 12, 3) := by decide +kernel
theorem dX8_agree_21 : decode cX8_agree 21 = .ok (.iload_n 3, 1) := by decide +kernel
theorem dX8_agree_22 : decode cX8_agree 22 = .ok (.iconst 0, 1) := by decide +kernel
theorem dX8_agree_23 : decode cX8_agree 23 = .ok (.iconst 2, 1) := by decide +kernel
theorem dX8_agree_24 : decode cX8_agree 24 = .ok (.invokestatic 61, 3) := by decide +kernel
theorem dX8_agree_27 : decode cX8_agree 27 = .ok (.ifCond .ne 7, 3) := by decide +kernel
theorem dX8_agree_30 : decode cX8_agree 30 = .ok (.sipush (-10001), 3) := by decide +kernel
theorem dX8_agree_33 : decode cX8_agree 33 = .ok (.ireturn, 1) := by decide +kernel
theorem dX8_agree_34 : decode cX8_agree 34 = .ok (.iconst 0, 1) := by decide +kernel
theorem dX8_agree_35 : decode cX8_agree 35 = .ok (.istore 4, 2) := by decide +kernel
theorem dX8_agree_37 : decode cX8_agree 37 = .ok (.sipush (-10009), 3) := by decide +kernel
theorem dX8_agree_40 : decode cX8_agree 40 = .ok (.istore 5, 2) := by decide +kernel
theorem dX8_agree_42 : decode cX8_agree 42 = .ok (.sipush (-10009), 3) := by decide +kernel
theorem dX8_agree_45 : decode cX8_agree 45 = .ok (.istore 6, 2) := by decide +kernel
theorem dX8_agree_47 : decode cX8_agree 47 = .ok (.iload_n 1, 1) := by decide +kernel
theorem dX8_agree_48 : decode cX8_agree 48 = .ok (.istore 7, 2) := by decide +kernel
theorem dX8_agree_50 : decode cX8_agree 50 = .ok (.iload 7, 2) := by decide +kernel
theorem dX8_agree_52 : decode cX8_agree 52 = .ok (.iload_n 2, 1) := by decide +kernel
theorem dX8_agree_53 : decode cX8_agree 53 = .ok (.if_icmp .gt 97, 3) := by decide +kernel
theorem dX8_agree_56 : decode cX8_agree 56 = .ok (.iload_n 1, 1) := by decide +kernel
theorem dX8_agree_57 : decode cX8_agree 57 = .ok (.istore 8, 2) := by decide +kernel
theorem dX8_agree_59 : decode cX8_agree 59 = .ok (.iload 8, 2) := by decide +kernel
theorem dX8_agree_61 : decode cX8_agree 61 = .ok (.iload_n 2, 1) := by decide +kernel
theorem dX8_agree_62 : decode cX8_agree 62 = .ok (.if_icmp .gt 82, 3) := by decide +kernel
theorem dX8_agree_65 : decode cX8_agree 65 = .ok (.aload_n 0, 1) := by decide +kernel
theorem dX8_agree_66 : decode cX8_agree 66 = .ok (.iload 7, 2) := by decide +kernel
theorem dX8_agree_68 : decode cX8_agree 68 = .ok (.iload 8, 2) := by decide +kernel
theorem dX8_agree_70 : decode cX8_agree 70 = .ok (.invokevirtual 207, 3) := by decide +kernel
theorem dX8_agree_73 : decode cX8_agree 73 = .ok (.istore 9, 2) := by decide +kernel
theorem dX8_agree_75 : decode cX8_agree 75 = .ok (.iload 4, 2) := by decide +kernel
theorem dX8_agree_77 : decode cX8_agree 77 = .ok (.iload 9, 2) := by decide +kernel
theorem dX8_agree_79 : decode cX8_agree 79 = .ok (.ifCond .eq 7, 3) := by decide +kernel
theorem dX8_agree_82 : decode cX8_agree 82 = .ok (.iconst 1, 1) := by decide +kernel
theorem dX8_agree_83 : decode cX8_agree 83 = .ok (.goto 4, 3) := by decide +kernel
theorem dX8_agree_86 : decode cX8_agree 86 = .ok (.iconst 0, 1) := by decide +kernel
theorem dX8_agree_87 : decode cX8_agree 87 = .ok (.iadd, 1) := by decide +kernel
theorem dX8_agree_88 : decode cX8_agree 88 = .ok (.istore 4, 2) := by decide +kernel
theorem dX8_agree_90 : decode cX8_agree 90 = .ok (.iload 9, 2) := by decide +kernel
theorem dX8_agree_92 : decode cX8_agree 92 = .ok (.ifCond .ne 15, 3) := by decide +kernel
theorem dX8_agree_95 : decode cX8_agree 95 = .ok (.iload 5, 2) := by decide +kernel
theorem dX8_agree_97 : decode cX8_agree 97 = .ok (.sipush (-10009), 3) := by decide +kernel
theorem dX8_agree_100 : decode cX8_agree 100 = .ok (.if_icmp .ne 7, 3) := by decide +kernel
theorem dX8_agree_103 : decode cX8_agree 103 = .ok (.iconst 1, 1) := by decide +kernel
theorem dX8_agree_104 : decode cX8_agree 104 = .ok (.goto 4, 3) := by decide +kernel
theorem dX8_agree_107 : decode cX8_agree 107 = .ok (.iconst 0, 1) := by decide +kernel
theorem dX8_agree_108 : decode cX8_agree 108 = .ok (.istore 10, 2) := by decide +kernel
theorem dX8_agree_110 : decode cX8_agree 110 = .ok (.iload 10, 2) := by decide +kernel
theorem dX8_agree_112 : decode cX8_agree 112 = .ok (.ifCond .eq 8, 3) := by decide +kernel
theorem dX8_agree_115 : decode cX8_agree 115 = .ok (.iload 7, 2) := by decide +kernel
theorem dX8_agree_117 : decode cX8_agree 117 = .ok (.goto 5, 3) := by decide +kernel
theorem dX8_agree_120 : decode cX8_agree 120 = .ok (.iload 5, 2) := by decide +kernel
theorem dX8_agree_122 : decode cX8_agree 122 = .ok (.istore 5, 2) := by decide +kernel
theorem dX8_agree_124 : decode cX8_agree 124 = .ok (.iload 10, 2) := by decide +kernel
theorem dX8_agree_126 : decode cX8_agree 126 = .ok (.ifCond .eq 8, 3) := by decide +kernel
theorem dX8_agree_129 : decode cX8_agree 129 = .ok (.iload 8, 2) := by decide +kernel
theorem dX8_agree_131 : decode cX8_agree 131 = .ok (.goto 5, 3) := by decide +kernel
theorem dX8_agree_134 : decode cX8_agree 134 = .ok (.iload 6, 2) := by decide +kernel
theorem dX8_agree_136 : decode cX8_agree 136 = .ok (.istore 6, 2) := by decide +kernel
theorem dX8_agree_138 : decode cX8_agree 138 = .ok (.iinc 8 1, 3) := by decide +kernel
theorem dX8_agree_141 : decode cX8_agree 141 = .ok (.goto (-82), 3) := by decide +kernel
theorem dX8_agree_144 : decode cX8_agree 144 = .ok (.iinc 7 1, 3) := by decide +kernel
theorem dX8_agree_147 : decode cX8_agree 147 = .ok (.goto (-97), 3) := by decide +kernel
theorem dX8_agree_150 : decode cX8_agree 150 = .ok (.iload_n 3, 1) := by decide +kernel
theorem dX8_agree_151 : decode cX8_agree 151 = .ok (.ifCond .ne 8, 3) := by decide +kernel
theorem dX8_agree_154 : decode cX8_agree 154 = .ok (.iload 4, 2) := by decide +kernel
theorem dX8_agree_156 : decode cX8_agree 156 = .ok (.goto 15, 3) := by decide +kernel
theorem dX8_agree_159 : decode cX8_agree 159 = .ok (.iload_n 3, 1) := by decide +kernel
theorem dX8_agree_160 : decode cX8_agree 160 = .ok (.iconst 1, 1) := by decide +kernel
theorem dX8_agree_161 : decode cX8_agree 161 = .ok (.if_icmp .ne 8, 3) := by decide +kernel
theorem dX8_agree_164 : decode cX8_agree 164 = .ok (.iload 5, 2) := by decide +kernel
theorem dX8_agree_166 : decode cX8_agree 166 = .ok (.goto 5, 3) := by decide +kernel
theorem dX8_agree_169 : decode cX8_agree 169 = .ok (.iload 6, 2) := by decide +kernel
theorem dX8_agree_171 : decode cX8_agree 171 = .ok (.ireturn, 1) := by decide +kernel
theorem dX8_always_0 : decode cX8_always 0 = .ok (.iload_n 1, 1) := by decide +kernel
theorem dX8_always_1 : decode cX8_always 1 = .ok (.invokestatic 180, 3) := by decide +kernel
theorem dX8_always_4 : decode cX8_always 4 = .ok (.ifCond .ne 7, 3) := by decide +kernel
theorem dX8_always_7 : decode cX8_always 7 = .ok (.sipush (-10001), 3) := by decide +kernel
theorem dX8_always_10 : decode cX8_always 10 = .ok (.ireturn, 1) := by decide +kernel
theorem dX8_always_11 : decode cX8_always 11 = .ok (.bipush 63, 2) := by decide +kernel
theorem dX8_always_13 : decode cX8_always 13 = .ok (.istore_n 2, 1) := by decide +kernel
theorem dX8_always_14 : decode cX8_always 14 = .ok (.iconst 0, 1) := by decide +kernel
theorem dX8_always_15 : decode cX8_always 15 = .ok (.istore_n 3, 1) := by decide +kernel
theorem dX8_always_16 : decode cX8_always 16 = .ok (.iload_n 3, 1) := by decide +kernel
theorem dX8_always_17 : decode cX8_always 17 = .ok (.bipush 16, 2) := by decide +kernel
theorem dX8_always_19 : decode cX8_always 19 = .ok (.if_icmp .ge 27, 3) := by decide +kernel
theorem dX8_always_22 : decode cX8_always 22 = .ok (.aload_n 0, 1) := by decide +kernel
theorem dX8_always_23 : decode cX8_always 23 = .ok (.iload_n 3, 1) := by decide +kernel
theorem dX8_always_24 : decode cX8_always 24 = .ok (.iconst 4, 1) := by decide +kernel
theorem dX8_always_25 : decode cX8_always 25 = .ok (.idiv, 1) := by decide +kernel
theorem dX8_always_26 : decode cX8_always 26 = .ok (.iload_n 3, 1) := by decide +kernel
theorem dX8_always_27 : decode cX8_always 27 = .ok (.iconst 4, 1) := by decide +kernel
theorem dX8_always_28 : decode cX8_always 28 = .ok (.irem, 1) := by decide +kernel
theorem dX8_always_29 : decode cX8_always 29 = .ok (.invokevirtual 192, 3) := by decide +kernel
theorem dX8_always_32 : decode cX8_always 32 = .ok (.iload_n 2, 1) := by decide +kernel
theorem dX8_always_33 : decode cX8_always 33 = .ok (.aload_n 0, 1) := by decide +kernel
theorem dX8_always_34 : decode cX8_always 34 = .ok (.iload_n 1, 1) := by decide +kernel
theorem dX8_always_35 : decode cX8_always 35 = .ok (.invokevirtual 201, 3) := by decide +kernel
theorem dX8_always_38 : decode cX8_always 38 = .ok (.iand, 1) := by decide +kernel
theorem dX8_always_39 : decode cX8_always 39 = .ok (.istore_n 2, 1) := by decide +kernel
theorem dX8_always_40 : decode cX8_always 40 = .ok (.iinc 3 1, 3) := by decide +kernel
theorem dX8_always_43 : decode cX8_always 43 = .ok (.goto (-27), 3) := by decide +kernel
theorem dX8_always_46 : decode cX8_always 46 = .ok (.iload_n 2, 1) := by decide +kernel
theorem dX8_always_47 : decode cX8_always 47 = .ok (.ireturn, 1) := by decide +kernel
theorem dX8_keeps_0 : decode cX8_keeps 0 = .ok (.iconst 0, 1) := by decide +kernel
theorem dX8_keeps_1 : decode cX8_keeps 1 = .ok (.istore_n 2, 1) := by decide +kernel
theorem dX8_keeps_2 : decode cX8_keeps 2 = .ok (.iload_n 2, 1) := by decide +kernel
theorem dX8_keeps_3 : decode cX8_keeps 3 = .ok (.bipush 16, 2) := by decide +kernel
theorem dX8_keeps_5 : decode cX8_keeps 5 = .ok (.if_icmp .ge 99, 3) := by decide +kernel
theorem dX8_keeps_8 : decode cX8_keeps 8 = .ok (.aload_n 0, 1) := by decide +kernel
theorem dX8_keeps_9 : decode cX8_keeps 9 = .ok (.iload_n 1, 1) := by decide +kernel
theorem dX8_keeps_10 : decode cX8_keeps 10 = .ok (.iload_n 2, 1) := by decide +kernel
theorem dX8_keeps_11 : decode cX8_keeps 11 = .ok (.iconst 4, 1) := by decide +kernel
theorem dX8_keeps_12 : decode cX8_keeps 12 = .ok (.idiv, 1) := by decide +kernel
theorem dX8_keeps_13 : decode cX8_keeps 13 = .ok (.iload_n 2, 1) := by decide +kernel
theorem dX8_keeps_14 : decode cX8_keeps 14 = .ok (.iconst 4, 1) := by decide +kernel
theorem dX8_keeps_15 : decode cX8_keeps 15 = .ok (.irem, 1) := by decide +kernel
theorem dX8_keeps_16 : decode cX8_keeps 16 = .ok (.invokevirtual 174, 3) := by decide +kernel
theorem dX8_keeps_19 : decode cX8_keeps 19 = .ok (.aload_n 0, 1) := by decide +kernel
theorem dX8_keeps_20 : decode cX8_keeps 20 = .ok (.getfield 55, 3) := by decide +kernel
theorem dX8_keeps_23 : decode cX8_keeps 23 = .ok (.iload_n 2, 1) := by decide +kernel
theorem dX8_keeps_24 : decode cX8_keeps 24 = .ok (.aload_n 0, 1) := by decide +kernel
theorem dX8_keeps_25 : decode cX8_keeps 25 = .ok (.getfield 40, 3) := by decide +kernel
theorem dX8_keeps_28 : decode cX8_keeps 28 = .ok (.bipush 6, 2) := by decide +kernel
theorem dX8_keeps_30 : decode cX8_keeps 30 = .ok (.iload_n 1, 1) := by decide +kernel
theorem dX8_keeps_31 : decode cX8_keeps 31 = .ok (.imul, 1) := by decide +kernel
theorem dX8_keeps_32 : decode cX8_keeps 32 = .ok (.iconst 2, 1) := by decide +kernel
theorem dX8_keeps_33 : decode cX8_keeps 33 = .ok (.iadd, 1) := by decide +kernel
theorem dX8_keeps_34 : decode cX8_keeps 34 = .ok (.iaload, 1) := by decide +kernel
theorem dX8_keeps_35 : decode cX8_keeps 35 = .ok (.iastore, 1) := by decide +kernel
theorem dX8_keeps_36 : decode cX8_keeps 36 = .ok (.aload_n 0, 1) := by decide +kernel
theorem dX8_keeps_37 : decode cX8_keeps 37 = .ok (.getfield 58, 3) := by decide +kernel
theorem dX8_keeps_40 : decode cX8_keeps 40 = .ok (.iload_n 2, 1) := by decide +kernel
theorem dX8_keeps_41 : decode cX8_keeps 41 = .ok (.aload_n 0, 1) := by decide +kernel
theorem dX8_keeps_42 : decode cX8_keeps 42 = .ok (.getfield 40, 3) := by decide +kernel
theorem dX8_keeps_45 : decode cX8_keeps 45 = .ok (.bipush 6, 2) := by decide +kernel
theorem dX8_keeps_47 : decode cX8_keeps 47 = .ok (.iload_n 1, 1) := by decide +kernel
theorem dX8_keeps_48 : decode cX8_keeps 48 = .ok (.imul, 1) := by decide +kernel
theorem dX8_keeps_49 : decode cX8_keeps 49 = .ok (.iconst 1, 1) := by decide +kernel
theorem dX8_keeps_50 : decode cX8_keeps 50 = .ok (.iadd, 1) := by decide +kernel
theorem dX8_keeps_51 : decode cX8_keeps 51 = .ok (.iaload, 1) := by decide +kernel
theorem dX8_keeps_52 : decode cX8_keeps 52 = .ok (.iastore, 1) := by decide +kernel
theorem dX8_keeps_53 : decode cX8_keeps 53 = .ok (.iconst 0, 1) := by decide +kernel
theorem dX8_keeps_54 : decode cX8_keeps 54 = .ok (.istore_n 3, 1) := by decide +kernel
theorem dX8_keeps_55 : decode cX8_keeps 55 = .ok (.iload_n 3, 1) := by decide +kernel
theorem dX8_keeps_56 : decode cX8_keeps 56 = .ok (.bipush 40, 2) := by decide +kernel
theorem dX8_keeps_58 : decode cX8_keeps 58 = .ok (.aload_n 0, 1) := by decide +kernel
theorem dX8_keeps_59 : decode cX8_keeps 59 = .ok (.getfield 55, 3) := by decide +kernel
theorem dX8_keeps_62 : decode cX8_keeps 62 = .ok (.iload_n 2, 1) := by decide +kernel
theorem dX8_keeps_63 : decode cX8_keeps 63 = .ok (.iaload, 1) := by decide +kernel
theorem dX8_keeps_64 : decode cX8_keeps 64 = .ok (.invokestatic 177, 3) := by decide +kernel
theorem dX8_keeps_67 : decode cX8_keeps 67 = .ok (.if_icmp .ge 31, 3) := by decide +kernel
theorem dX8_keeps_70 : decode cX8_keeps 70 = .ok (.aload_n 0, 1) := by decide +kernel
theorem dX8_keeps_71 : decode cX8_keeps 71 = .ok (.getfield 52, 3) := by decide +kernel
theorem dX8_keeps_74 : decode cX8_keeps 74 = .ok (.bipush 40, 2) := by decide +kernel
theorem dX8_keeps_76 : decode cX8_keeps 76 = .ok (.iload_n 2, 1) := by decide +kernel
theorem dX8_keeps_77 : decode cX8_keeps 77 = .ok (.imul, 1) := by decide +kernel
theorem dX8_keeps_78 : decode cX8_keeps 78 = .ok (.iload_n 3, 1) := by decide +kernel
theorem dX8_keeps_79 : decode cX8_keeps 79 = .ok (.iadd, 1) := by decide +kernel
theorem dX8_keeps_80 : decode cX8_keeps 80 = .ok (.aload_n 0, 1) := by decide +kernel
theorem dX8_keeps_81 : decode cX8_keeps 81 = .ok (.getfield 31, 3) := by decide +kernel
theorem dX8_keeps_84 : decode cX8_keeps 84 = .ok (.bipush 40, 2) := by decide +kernel
theorem dX8_keeps_86 : decode cX8_keeps 86 = .ok (.iload_n 1, 1) := by decide +kernel
theorem dX8_keeps_87 : decode cX8_keeps 87 = .ok (.imul, 1) := by decide +kernel
theorem dX8_keeps_88 : decode cX8_keeps 88 = .ok (.iload_n 3, 1) := by decide +kernel
theorem dX8_keeps_89 : decode cX8_keeps 89 = .ok (.iadd, 1) := by decide +kernel
theorem dX8_keeps_90 : decode cX8_keeps 90 = .ok (.iaload, 1) := by decide +kernel
theorem dX8_keeps_91 : decode cX8_keeps 91 = .ok (.iastore, 1) := by decide +kernel
theorem dX8_keeps_92 : decode cX8_keeps 92 = .ok (.iinc 3 1, 3) := by decide +kernel
theorem dX8_keeps_95 : decode cX8_keeps 95 = .ok (.goto (-40), 3) := by decide +kernel
theorem dX8_keeps_98 : decode cX8_keeps 98 = .ok (.iinc 2 1, 3) := by decide +kernel
theorem dX8_keeps_101 : decode cX8_keeps 101 = .ok (.goto (-99), 3) := by decide +kernel
theorem dX8_keeps_104 : decode cX8_keeps 104 = .ok (.return_, 1) := by decide +kernel
theorem dX8_isIdle_0 : decode cX8_isIdle 0 = .ok (.iconst 1, 1) := by decide +kernel
theorem dX8_isIdle_1 : decode cX8_isIdle 1 = .ok (.istore_n 3, 1) := by decide +kernel
theorem dX8_isIdle_2 : decode cX8_isIdle 2 = .ok (.iconst 0, 1) := by decide +kernel
theorem dX8_isIdle_3 : decode cX8_isIdle 3 = .ok (.istore 4, 2) := by decide +kernel
theorem dX8_isIdle_5 : decode cX8_isIdle 5 = .ok (.iload 4, 2) := by decide +kernel
theorem dX8_isIdle_7 : decode cX8_isIdle 7 = .ok (.bipush 16, 2) := by decide +kernel
theorem dX8_isIdle_9 : decode cX8_isIdle 9 = .ok (.if_icmp .ge 148, 3) := by decide +kernel
theorem dX8_isIdle_12 : decode cX8_isIdle 12 = .ok (.iload_n 3, 1) := by decide +kernel
theorem dX8_isIdle_13 : decode cX8_isIdle 13 = .ok (.ifCond .eq 144, 3) := by decide +kernel
theorem dX8_isIdle_16 : decode cX8_isIdle 16 = .ok (.aload_n 0, 1) := by decide +kernel
theorem dX8_isIdle_17 : decode cX8_isIdle 17 = .ok (.iload_n 1, 1) := by decide +kernel
theorem dX8_isIdle_18 : decode cX8_isIdle 18 = .ok (.invokevirtual 121, 3) := by decide +kernel
theorem dX8_isIdle_21 : decode cX8_isIdle 21 = .ok (.aload_n 0, 1) := by decide +kernel
theorem dX8_isIdle_22 : decode cX8_isIdle 22 = .ok (.iload_n 2, 1) := by decide +kernel
theorem dX8_isIdle_23 : decode cX8_isIdle 23 = .ok (.invokevirtual 134, 3) := by decide +kernel
theorem dX8_isIdle_26 : decode cX8_isIdle 26 = .ok (.aload_n 0, 1) := by decide +kernel
theorem dX8_isIdle_27 : decode cX8_isIdle 27 = .ok (.iload_n 1, 1) := by decide +kernel
theorem dX8_isIdle_28 : decode cX8_isIdle 28 = .ok (.iload 4, 2) := by decide +kernel
theorem dX8_isIdle_30 : decode cX8_isIdle 30 = .ok (.iconst 4, 1) := by decide +kernel
theorem dX8_isIdle_31 : decode cX8_isIdle 31 = .ok (.idiv, 1) := by decide +kernel
theorem dX8_isIdle_32 : decode cX8_isIdle 32 = .ok (.iload 4, 2) := by decide +kernel
theorem dX8_isIdle_34 : decode cX8_isIdle 34 = .ok (.iconst 4, 1) := by decide +kernel
theorem dX8_isIdle_35 : decode cX8_isIdle 35 = .ok (.irem, 1) := by decide +kernel
theorem dX8_isIdle_36 : decode cX8_isIdle 36 = .ok (.invokevirtual 168, 3) := by decide +kernel
theorem dX8_isIdle_39 : decode cX8_isIdle 39 = .ok (.aload_n 0, 1) := by decide +kernel
theorem dX8_isIdle_40 : decode cX8_isIdle 40 = .ok (.getfield 40, 3) := by decide +kernel
theorem dX8_isIdle_43 : decode cX8_isIdle 43 = .ok (.bipush 6, 2) := by decide +kernel
theorem dX8_isIdle_45 : decode cX8_isIdle 45 = .ok (.iload_n 1, 1) := by decide +kernel
theorem dX8_isIdle_46 : decode cX8_isIdle 46 = .ok (.imul, 1) := by decide +kernel
theorem dX8_isIdle_47 : decode cX8_isIdle 47 = .ok (.iconst 2, 1) := by decide +kernel
theorem dX8_isIdle_48 : decode cX8_isIdle 48 = .ok (.iadd, 1) := by decide +kernel
theorem dX8_isIdle_49 : decode cX8_isIdle 49 = .ok (.iaload, 1) := by decide +kernel
theorem dX8_isIdle_50 : decode cX8_isIdle 50 = .ok (.aload_n 0, 1) := by decide +kernel
theorem dX8_isIdle_51 : decode cX8_isIdle 51 = .ok (.getfield 55, 3) := by decide +kernel
theorem dX8_isIdle_54 : decode cX8_isIdle 54 = .ok (.iload 4, 2) := by decide +kernel
theorem dX8_isIdle_56 : decode cX8_isIdle 56 = .ok (.iaload, 1) := by decide +kernel
theorem dX8_isIdle_57 : decode cX8_isIdle 57 = .ok (.if_icmp .ne 28, 3) := by decide +kernel
theorem dX8_isIdle_60 : decode cX8_isIdle 60 = .ok (.aload_n 0, 1) := by decide +kernel
theorem dX8_isIdle_61 : decode cX8_isIdle 61 = .ok (.getfield 40, 3) := by decide +kernel
theorem dX8_isIdle_64 : decode cX8_isIdle 64 = .ok (.bipush 6, 2) := by decide +kernel
theorem dX8_isIdle_66 : decode cX8_isIdle 66 = .ok (.iload_n 1, 1) := by decide +kernel
theorem dX8_isIdle_67 : decode cX8_isIdle 67 = .ok (.imul, 1) := by decide +kernel
theorem dX8_isIdle_68 : decode cX8_isIdle 68 = .ok (.iconst 1, 1) := by decide +kernel
theorem dX8_isIdle_69 : decode cX8_isIdle 69 = .ok (.iadd, 1) := by decide +kernel
theorem dX8_isIdle_70 : decode cX8_isIdle 70 = .ok (.iaload, 1) := by decide +kernel
theorem dX8_isIdle_71 : decode cX8_isIdle 71 = .ok (.aload_n 0, 1) := by decide +kernel
theorem dX8_isIdle_72 : decode cX8_isIdle 72 = .ok (.getfield 58, 3) := by decide +kernel
theorem dX8_isIdle_75 : decode cX8_isIdle 75 = .ok (.iload 4, 2) := by decide +kernel
theorem dX8_isIdle_77 : decode cX8_isIdle 77 = .ok (.iaload, 1) := by decide +kernel
theorem dX8_isIdle_78 : decode cX8_isIdle 78 = .ok (.if_icmp .ne 7, 3) := by decide +kernel
theorem dX8_isIdle_81 : decode cX8_isIdle 81 = .ok (.iconst 1, 1) := by decide +kernel
theorem dX8_isIdle_82 : decode cX8_isIdle 82 = .ok (.goto 4, 3) := by decide +kernel
theorem dX8_isIdle_85 : decode cX8_isIdle 85 = .ok (.iconst 0, 1) := by decide +kernel
theorem dX8_isIdle_86 : decode cX8_isIdle 86 = .ok (.istore_n 3, 1) := by decide +kernel
theorem dX8_isIdle_87 : decode cX8_isIdle 87 = .ok (.iconst 0, 1) := by decide +kernel
theorem dX8_isIdle_88 : decode cX8_isIdle 88 = .ok (.istore 5, 2) := by decide +kernel
theorem dX8_isIdle_90 : decode cX8_isIdle 90 = .ok (.iload 5, 2) := by decide +kernel
theorem dX8_isIdle_92 : decode cX8_isIdle 92 = .ok (.bipush 40, 2) := by decide +kernel
theorem dX8_isIdle_94 : decode cX8_isIdle 94 = .ok (.aload_n 0, 1) := by decide +kernel
theorem dX8_isIdle_95 : decode cX8_isIdle 95 = .ok (.getfield 55, 3) := by decide +kernel
theorem dX8_isIdle_98 : decode cX8_isIdle 98 = .ok (.iload 4, 2) := by decide +kernel
theorem dX8_isIdle_100 : decode cX8_isIdle 100 = .ok (.iaload, 1) := by decide +kernel
theorem dX8_isIdle_101 : decode cX8_isIdle 101 = .ok (.invokestatic 177, 3) := by decide +kernel
theorem dX8_isIdle_104 : decode cX8_isIdle 104 = .ok (.if_icmp .ge 47, 3) := by decide +kernel
theorem dX8_isIdle_107 : decode cX8_isIdle 107 = .ok (.iload_n 3, 1) := by decide +kernel
theorem dX8_isIdle_108 : decode cX8_isIdle 108 = .ok (.ifCond .eq 43, 3) := by decide +kernel
theorem dX8_isIdle_111 : decode cX8_isIdle 111 = .ok (.aload_n 0, 1) := by decide +kernel
theorem dX8_isIdle_112 : decode cX8_isIdle 112 = .ok (.getfield 52, 3) := by decide +kernel
theorem dX8_isIdle_115 : decode cX8_isIdle 115 = .ok (.bipush 40, 2) := by decide +kernel
theorem dX8_isIdle_117 : decode cX8_isIdle 117 = .ok (.iload 4, 2) := by decide +kernel
theorem dX8_isIdle_119 : decode cX8_isIdle 119 = .ok (.imul, 1) := by decide +kernel
theorem dX8_isIdle_120 : decode cX8_isIdle 120 = .ok (.iload 5, 2) := by decide +kernel
theorem dX8_isIdle_122 : decode cX8_isIdle 122 = .ok (.iadd, 1) := by decide +kernel
theorem dX8_isIdle_123 : decode cX8_isIdle 123 = .ok (.iaload, 1) := by decide +kernel
theorem dX8_isIdle_124 : decode cX8_isIdle 124 = .ok (.aload_n 0, 1) := by decide +kernel
theorem dX8_isIdle_125 : decode cX8_isIdle 125 = .ok (.getfield 31, 3) := by decide +kernel
theorem dX8_isIdle_128 : decode cX8_isIdle 128 = .ok (.bipush 40, 2) := by decide +kernel
theorem dX8_isIdle_130 : decode cX8_isIdle 130 = .ok (.iload_n 1, 1) := by decide +kernel
theorem dX8_isIdle_131 : decode cX8_isIdle 131 = .ok (.imul, 1) := by decide +kernel
theorem dX8_isIdle_132 : decode cX8_isIdle 132 = .ok (.iload 5, 2) := by decide +kernel
theorem dX8_isIdle_134 : decode cX8_isIdle 134 = .ok (.iadd, 1) := by decide +kernel
theorem dX8_isIdle_135 : decode cX8_isIdle 135 = .ok (.iaload, 1) := by decide +kernel
theorem dX8_isIdle_136 : decode cX8_isIdle 136 = .ok (.if_icmp .ne 7, 3) := by decide +kernel
theorem dX8_isIdle_139 : decode cX8_isIdle 139 = .ok (.iconst 1, 1) := by decide +kernel
theorem dX8_isIdle_140 : decode cX8_isIdle 140 = .ok (.goto 4, 3) := by decide +kernel
theorem dX8_isIdle_143 : decode cX8_isIdle 143 = .ok (.iconst 0, 1) := by decide +kernel
theorem dX8_isIdle_144 : decode cX8_isIdle 144 = .ok (.istore_n 3, 1) := by decide +kernel
theorem dX8_isIdle_145 : decode cX8_isIdle 145 = .ok (.iinc 5 1, 3) := by decide +kernel
theorem dX8_isIdle_148 : decode cX8_isIdle 148 = .ok (.goto (-58), 3) := by decide +kernel
theorem dX8_isIdle_151 : decode cX8_isIdle 151 = .ok (.iinc 4 1, 3) := by decide +kernel
theorem dX8_isIdle_154 : decode cX8_isIdle 154 = .ok (.goto (-149), 3) := by decide +kernel
theorem dX8_isIdle_157 : decode cX8_isIdle 157 = .ok (.iload_n 3, 1) := by decide +kernel
theorem dX8_isIdle_158 : decode cX8_isIdle 158 = .ok (.ireturn, 1) := by decide +kernel
theorem dX8_idle_0 : decode cX8_idle 0 = .ok (.iload_n 1, 1) := by decide +kernel
theorem dX8_idle_1 : decode cX8_idle 1 = .ok (.invokestatic 107, 3) := by decide +kernel
theorem dX8_idle_4 : decode cX8_idle 4 = .ok (.ifCond .ne 7, 3) := by decide +kernel
theorem dX8_idle_7 : decode cX8_idle 7 = .ok (.sipush (-10001), 3) := by decide +kernel
theorem dX8_idle_10 : decode cX8_idle 10 = .ok (.ireturn, 1) := by decide +kernel
theorem dX8_idle_11 : decode cX8_idle 11 = .ok (.aload_n 0, 1) := by decide +kernel
theorem dX8_idle_12 : decode cX8_idle 12 = .ok (.iload_n 1, 1) := by decide +kernel
theorem dX8_idle_13 : decode cX8_idle 13 = .ok (.invokevirtual 210, 3) := by decide +kernel
theorem dX8_idle_16 : decode cX8_idle 16 = .ok (.iconst 0, 1) := by decide +kernel
theorem dX8_idle_17 : decode cX8_idle 17 = .ok (.istore_n 2, 1) := by decide +kernel
theorem dX8_idle_18 : decode cX8_idle 18 = .ok (.iload_n 2, 1) := by decide +kernel
theorem dX8_idle_19 : decode cX8_idle 19 = .ok (.aload_n 0, 1) := by decide +kernel
theorem dX8_idle_20 : decode cX8_idle 20 = .ok (.getfield 7, 3) := by decide +kernel
theorem dX8_idle_23 : decode cX8_idle 23 = .ok (.sipush 421, 3) := by decide +kernel
theorem dX8_idle_26 : decode cX8_idle 26 = .ok (.iload_n 1, 1) := by decide +kernel
theorem dX8_idle_27 : decode cX8_idle 27 = .ok (.imul, 1) := by decide +kernel
theorem dX8_idle_28 : decode cX8_idle 28 = .ok (.iaload, 1) := by decide +kernel
theorem dX8_idle_29 : decode cX8_idle 29 = .ok (.if_icmp .ge 20, 3) := by decide +kernel
theorem dX8_idle_32 : decode cX8_idle 32 = .ok (.aload_n 0, 1) := by decide +kernel
theorem dX8_idle_33 : decode cX8_idle 33 = .ok (.iload_n 1, 1) := by decide +kernel
theorem dX8_idle_34 : decode cX8_idle 34 = .ok (.iload_n 2, 1) := by decide +kernel
theorem dX8_idle_35 : decode cX8_idle 35 = .ok (.invokevirtual 213, 3) := by decide +kernel
theorem dX8_idle_38 : decode cX8_idle 38 = .ok (.ifCond .eq 5, 3) := by decide +kernel
theorem dX8_idle_41 : decode cX8_idle 41 = .ok (.iload_n 2, 1) := by decide +kernel
theorem dX8_idle_42 : decode cX8_idle 42 = .ok (.ireturn, 1) := by decide +kernel
theorem dX8_idle_43 : decode cX8_idle 43 = .ok (.iinc 2 1, 3) := by decide +kernel
theorem dX8_idle_46 : decode cX8_idle 46 = .ok (.goto (-28), 3) := by decide +kernel
theorem dX8_idle_49 : decode cX8_idle 49 = .ok (.sipush (-10009), 3) := by decide +kernel
theorem dX8_idle_52 : decode cX8_idle 52 = .ok (.ireturn, 1) := by decide +kernel
theorem dL_law_0 : decode cL_law 0 = .ok (.new 7, 3) := by decide +kernel
theorem dL_law_3 : decode cL_law 3 = .ok (.dup, 1) := by decide +kernel
theorem dL_law_4 : decode cL_law 4 = .ok (.invokespecial 9, 3) := by decide +kernel
theorem dL_law_7 : decode cL_law 7 = .ok (.astore_n 1, 1) := by decide +kernel
theorem dL_law_8 : decode cL_law 8 = .ok (.new 10, 3) := by decide +kernel
theorem dL_law_11 : decode cL_law 11 = .ok (.dup, 1) := by decide +kernel
theorem dL_law_12 : decode cL_law 12 = .ok (.invokespecial 12, 3) := by decide +kernel
theorem dL_law_15 : decode cL_law 15 = .ok (.astore_n 2, 1) := by decide +kernel
theorem dL_law_16 : decode cL_law 16 = .ok (.iconst 0, 1) := by decide +kernel
theorem dL_law_17 : decode cL_law 17 = .ok (.istore_n 3, 1) := by decide +kernel
theorem dL_law_18 : decode cL_law 18 = .ok (.iload_n 3, 1) := by decide +kernel
theorem dL_law_19 : decode cL_law 19 = .ok (.aload_n 0, 1) := by decide +kernel
theorem dL_law_20 : decode cL_law 20 = .ok (.arraylength, 1) := by decide +kernel
theorem dL_law_21 : decode cL_law 21 = .ok (.bipush 6, 2) := by decide +kernel
theorem dL_law_23 : decode cL_law 23 = .ok (.isub, 1) := by decide +kernel
theorem dL_law_24 : decode cL_law 24 = .ok (.if_icmp .gt 666, 3) := by decide +kernel
theorem dL_law_27 : decode cL_law 27 = .ok (.aload_n 0, 1) := by decide +kernel
theorem dL_law_28 : decode cL_law 28 = .ok (.iload_n 3, 1) := by decide +kernel
theorem dL_law_29 : decode cL_law 29 = .ok (.iaload, 1) := by decide +kernel
theorem dL_law_30 : decode cL_law 30 = .ok (.bipush 31, 2) := by decide +kernel
theorem dL_law_32 : decode cL_law 32 = .ok (.iand, 1) := by decide +kernel
theorem dL_law_33 : decode cL_law 33 = .ok (.tableswitch 651 0 17 #[87, 110, 123, 146, 159, 172, 205, 218, 241, 274, 327, 380, 443, 486, 529, 562, 605, 628], 87) := by decide +kernel
theorem dL_law_120 : decode cL_law 120 = .ok (.aload_n 1, 1) := by decide +kernel
theorem dL_law_121 : decode cL_law 121 = .ok (.aload_n 0, 1) := by decide +kernel
theorem dL_law_122 : decode cL_law 122 = .ok (.iload_n 3, 1) := by decide +kernel
theorem dL_law_123 : decode cL_law 123 = .ok (.iconst 1, 1) := by decide +kernel
theorem dL_law_124 : decode cL_law 124 = .ok (.iadd, 1) := by decide +kernel
theorem dL_law_125 : decode cL_law 125 = .ok (.iaload, 1) := by decide +kernel
theorem dL_law_126 : decode cL_law 126 = .ok (.invokevirtual 13, 3) := by decide +kernel
theorem dL_law_129 : decode cL_law 129 = .ok (.aload_n 2, 1) := by decide +kernel
theorem dL_law_130 : decode cL_law 130 = .ok (.aload_n 0, 1) := by decide +kernel
theorem dL_law_131 : decode cL_law 131 = .ok (.iload_n 3, 1) := by decide +kernel
theorem dL_law_132 : decode cL_law 132 = .ok (.iconst 1, 1) := by decide +kernel
theorem dL_law_133 : decode cL_law 133 = .ok (.iadd, 1) := by decide +kernel
theorem dL_law_134 : decode cL_law 134 = .ok (.iaload, 1) := by decide +kernel
theorem dL_law_135 : decode cL_law 135 = .ok (.invokevirtual 17, 3) := by decide +kernel
theorem dL_law_138 : decode cL_law 138 = .ok (.if_icmp .eq 546, 3) := by decide +kernel
theorem dL_law_141 : decode cL_law 141 = .ok (.iconst 0, 1) := by decide +kernel
theorem dL_law_142 : decode cL_law 142 = .ok (.ireturn, 1) := by decide +kernel
theorem dL_law_143 : decode cL_law 143 = .ok (.aload_n 1, 1) := by decide +kernel
theorem dL_law_144 : decode cL_law 144 = .ok (.invokevirtual 18, 3) := by decide +kernel
theorem dL_law_147 : decode cL_law 147 = .ok (.aload_n 2, 1) := by decide +kernel
theorem dL_law_148 : decode cL_law 148 = .ok (.invokevirtual 22, 3) := by decide +kernel
theorem dL_law_151 : decode cL_law 151 = .ok (.if_icmp .eq 533, 3) := by decide +kernel
theorem dL_law_154 : decode cL_law 154 = .ok (.iconst 0, 1) := by decide +kernel
theorem dL_law_155 : decode cL_law 155 = .ok (.ireturn, 1) := by decide +kernel
theorem dL_law_156 : decode cL_law 156 = .ok (.aload_n 1, 1) := by decide +kernel
theorem dL_law_157 : decode cL_law 157 = .ok (.aload_n 0, 1) := by decide +kernel
theorem dL_law_158 : decode cL_law 158 = .ok (.iload_n 3, 1) := by decide +kernel
theorem dL_law_159 : decode cL_law 159 = .ok (.iconst 1, 1) := by decide +kernel
theorem dL_law_160 : decode cL_law 160 = .ok (.iadd, 1) := by decide +kernel
theorem dL_law_161 : decode cL_law 161 = .ok (.iaload, 1) := by decide +kernel
theorem dL_law_162 : decode cL_law 162 = .ok (.invokevirtual 23, 3) := by decide +kernel
theorem dL_law_165 : decode cL_law 165 = .ok (.aload_n 2, 1) := by decide +kernel
theorem dL_law_166 : decode cL_law 166 = .ok (.aload_n 0, 1) := by decide +kernel
theorem dL_law_167 : decode cL_law 167 = .ok (.iload_n 3, 1) := by decide +kernel
theorem dL_law_168 : decode cL_law 168 = .ok (.iconst 1, 1) := by decide +kernel
theorem dL_law_169 : decode cL_law 169 = .ok (.iadd, 1) := by decide +kernel
theorem dL_law_170 : decode cL_law 170 = .ok (.iaload, 1) := by decide +kernel
theorem dL_law_171 : decode cL_law 171 = .ok (.invokevirtual 26, 3) := by decide +kernel
theorem dL_law_174 : decode cL_law 174 = .ok (.if_icmp .eq 510, 3) := by decide +kernel
theorem dL_law_177 : decode cL_law 177 = .ok (.iconst 0, 1) := by decide +kernel
theorem dL_law_178 : decode cL_law 178 = .ok (.ireturn, 1) := by decide +kernel
theorem dL_law_179 : decode cL_law 179 = .ok (.aload_n 1, 1) := by decide +kernel
theorem dL_law_180 : decode cL_law 180 = .ok (.invokevirtual 27, 3) := by decide +kernel
theorem dL_law_183 : decode cL_law 183 = .ok (.aload_n 2, 1) := by decide +kernel
theorem dL_law_184 : decode cL_law 184 = .ok (.invokevirtual 30, 3) := by decide +kernel
theorem dL_law_187 : decode cL_law 187 = .ok (.if_icmp .eq 497, 3) := by decide +kernel
theorem dL_law_190 : decode cL_law 190 = .ok (.iconst 0, 1) := by decide +kernel
theorem dL_law_191 : decode cL_law 191 = .ok (.ireturn, 1) := by decide +kernel
theorem dL_law_192 : decode cL_law 192 = .ok (.aload_n 1, 1) := by decide +kernel
theorem dL_law_193 : decode cL_law 193 = .ok (.invokevirtual 31, 3) := by decide +kernel
theorem dL_law_196 : decode cL_law 196 = .ok (.aload_n 2, 1) := by decide +kernel
theorem dL_law_197 : decode cL_law 197 = .ok (.invokevirtual 34, 3) := by decide +kernel
theorem dL_law_200 : decode cL_law 200 = .ok (.if_icmp .eq 484, 3) := by decide +kernel
theorem dL_law_203 : decode cL_law 203 = .ok (.iconst 0, 1) := by decide +kernel
theorem dL_law_204 : decode cL_law 204 = .ok (.ireturn, 1) := by decide +kernel
theorem dL_law_205 : decode cL_law 205 = .ok (.aload_n 1, 1) := by decide +kernel
theorem dL_law_206 : decode cL_law 206 = .ok (.aload_n 0, 1) := by decide +kernel
theorem dL_law_207 : decode cL_law 207 = .ok (.iload_n 3, 1) := by decide +kernel
theorem dL_law_208 : decode cL_law 208 = .ok (.iconst 1, 1) := by decide +kernel
theorem dL_law_209 : decode cL_law 209 = .ok (.iadd, 1) := by decide +kernel
theorem dL_law_210 : decode cL_law 210 = .ok (.iaload, 1) := by decide +kernel
theorem dL_law_211 : decode cL_law 211 = .ok (.aload_n 0, 1) := by decide +kernel
theorem dL_law_212 : decode cL_law 212 = .ok (.iload_n 3, 1) := by decide +kernel
theorem dL_law_213 : decode cL_law 213 = .ok (.iconst 2, 1) := by decide +kernel
theorem dL_law_214 : decode cL_law 214 = .ok (.iadd, 1) := by decide +kernel
theorem dL_law_215 : decode cL_law 215 = .ok (.iaload, 1) := by decide +kernel
theorem dL_law_216 : decode cL_law 216 = .ok (.invokevirtual 35, 3) := by decide +kernel
theorem dL_law_219 : decode cL_law 219 = .ok (.aload_n 2, 1) := by decide +kernel
theorem dL_law_220 : decode cL_law 220 = .ok (.aload_n 0, 1) := by decide +kernel
theorem dL_law_221 : decode cL_law 221 = .ok (.iload_n 3, 1) := by decide +kernel
theorem dL_law_222 : decode cL_law 222 = .ok (.iconst 1, 1) := by decide +kernel
theorem dL_law_223 : decode cL_law 223 = .ok (.iadd, 1) := by decide +kernel
theorem dL_law_224 : decode cL_law 224 = .ok (.iaload, 1) := by decide +kernel
theorem dL_law_225 : decode cL_law 225 = .ok (.aload_n 0, 1) := by decide +kernel
theorem dL_law_226 : decode cL_law 226 = .ok (.iload_n 3, 1) := by decide +kernel
theorem dL_law_227 : decode cL_law 227 = .ok (.iconst 2, 1) := by decide +kernel
theorem dL_law_228 : decode cL_law 228 = .ok (.iadd, 1) := by decide +kernel
theorem dL_law_229 : decode cL_law 229 = .ok (.iaload, 1) := by decide +kernel
theorem dL_law_230 : decode cL_law 230 = .ok (.invokevirtual 39, 3) := by decide +kernel
theorem dL_law_233 : decode cL_law 233 = .ok (.if_icmp .eq 451, 3) := by decide +kernel
theorem dL_law_236 : decode cL_law 236 = .ok (.iconst 0, 1) := by decide +kernel
theorem dL_law_237 : decode cL_law 237 = .ok (.ireturn, 1) := by decide +kernel
theorem dL_law_238 : decode cL_law 238 = .ok (.aload_n 1, 1) := by decide +kernel
theorem dL_law_239 : decode cL_law 239 = .ok (.invokevirtual 40, 3) := by decide +kernel
theorem dL_law_242 : decode cL_law 242 = .ok (.aload_n 2, 1) := by decide +kernel
theorem dL_law_243 : decode cL_law 243 = .ok (.invokevirtual 43, 3) := by decide +kernel
theorem dL_law_246 : decode cL_law 246 = .ok (.if_icmp .eq 438, 3) := by decide +kernel
theorem dL_law_249 : decode cL_law 249 = .ok (.iconst 0, 1) := by decide +kernel
theorem dL_law_250 : decode cL_law 250 = .ok (.ireturn, 1) := by decide +kernel
theorem dL_law_251 : decode cL_law 251 = .ok (.aload_n 1, 1) := by decide +kernel
theorem dL_law_252 : decode cL_law 252 = .ok (.aload_n 0, 1) := by decide +kernel
theorem dL_law_253 : decode cL_law 253 = .ok (.iload_n 3, 1) := by decide +kernel
theorem dL_law_254 : decode cL_law 254 = .ok (.iconst 1, 1) := by decide +kernel
theorem dL_law_255 : decode cL_law 255 = .ok (.iadd, 1) := by decide +kernel
theorem dL_law_256 : decode cL_law 256 = .ok (.iaload, 1) := by decide +kernel
theorem dL_law_257 : decode cL_law 257 = .ok (.invokevirtual 44, 3) := by decide +kernel
theorem dL_law_260 : decode cL_law 260 = .ok (.aload_n 2, 1) := by decide +kernel
theorem dL_law_261 : decode cL_law 261 = .ok (.aload_n 0, 1) := by decide +kernel
theorem dL_law_262 : decode cL_law 262 = .ok (.iload_n 3, 1) := by decide +kernel
theorem dL_law_263 : decode cL_law 263 = .ok (.iconst 1, 1) := by decide +kernel
theorem dL_law_264 : decode cL_law 264 = .ok (.iadd, 1) := by decide +kernel
theorem dL_law_265 : decode cL_law 265 = .ok (.iaload, 1) := by decide +kernel
theorem dL_law_266 : decode cL_law 266 = .ok (.invokevirtual 47, 3) := by decide +kernel
theorem dL_law_269 : decode cL_law 269 = .ok (.if_icmp .eq 415, 3) := by decide +kernel
theorem dL_law_272 : decode cL_law 272 = .ok (.iconst 0, 1) := by decide +kernel
theorem dL_law_273 : decode cL_law 273 = .ok (.ireturn, 1) := by decide +kernel
theorem dL_law_274 : decode cL_law 274 = .ok (.aload_n 1, 1) := by decide +kernel
theorem dL_law_275 : decode cL_law 275 = .ok (.aload_n 0, 1) := by decide +kernel
theorem dL_law_276 : decode cL_law 276 = .ok (.iload_n 3, 1) := by decide +kernel
theorem dL_law_277 : decode cL_law 277 = .ok (.iconst 1, 1) := by decide +kernel
theorem dL_law_278 : decode cL_law 278 = .ok (.iadd, 1) := by decide +kernel
theorem dL_law_279 : decode cL_law 279 = .ok (.iaload, 1) := by decide +kernel
theorem dL_law_280 : decode cL_law 280 = .ok (.aload_n 0, 1) := by decide +kernel
theorem dL_law_281 : decode cL_law 281 = .ok (.iload_n 3, 1) := by decide +kernel
theorem dL_law_282 : decode cL_law 282 = .ok (.iconst 2, 1) := by decide +kernel
theorem dL_law_283 : decode cL_law 283 = .ok (.iadd, 1) := by decide +kernel
theorem dL_law_284 : decode cL_law 284 = .ok (.iaload, 1) := by decide +kernel
theorem dL_law_285 : decode cL_law 285 = .ok (.invokevirtual 48, 3) := by decide +kernel
theorem dL_law_288 : decode cL_law 288 = .ok (.aload_n 2, 1) := by decide +kernel
theorem dL_law_289 : decode cL_law 289 = .ok (.aload_n 0, 1) := by decide +kernel
theorem dL_law_290 : decode cL_law 290 = .ok (.iload_n 3, 1) := by decide +kernel
theorem dL_law_291 : decode cL_law 291 = .ok (.iconst 1, 1) := by decide +kernel
theorem dL_law_292 : decode cL_law 292 = .ok (.iadd, 1) := by decide +kernel
theorem dL_law_293 : decode cL_law 293 = .ok (.iaload, 1) := by decide +kernel
theorem dL_law_294 : decode cL_law 294 = .ok (.aload_n 0, 1) := by decide +kernel
theorem dL_law_295 : decode cL_law 295 = .ok (.iload_n 3, 1) := by decide +kernel
theorem dL_law_296 : decode cL_law 296 = .ok (.iconst 2, 1) := by decide +kernel
theorem dL_law_297 : decode cL_law 297 = .ok (.iadd, 1) := by decide +kernel
theorem dL_law_298 : decode cL_law 298 = .ok (.iaload, 1) := by decide +kernel
theorem dL_law_299 : decode cL_law 299 = .ok (.invokevirtual 51, 3) := by decide +kernel
theorem dL_law_302 : decode cL_law 302 = .ok (.if_icmp .eq 382, 3) := by decide +kernel
theorem dL_law_305 : decode cL_law 305 = .ok (.iconst 0, 1) := by decide +kernel
theorem dL_law_306 : decode cL_law 306 = .ok (.ireturn, 1) := by decide +kernel
theorem dL_law_307 : decode cL_law 307 = .ok (.aload_n 1, 1) := by decide +kernel
theorem dL_law_308 : decode cL_law 308 = .ok (.aload_n 0, 1) := by decide +kernel
theorem dL_law_309 : decode cL_law 309 = .ok (.iload_n 3, 1) := by decide +kernel
theorem dL_law_310 : decode cL_law 310 = .ok (.iconst 1, 1) := by decide +kernel
theorem dL_law_311 : decode cL_law 311 = .ok (.iadd, 1) := by decide +kernel
theorem dL_law_312 : decode cL_law 312 = .ok (.iaload, 1) := by decide +kernel
theorem dL_law_313 : decode cL_law 313 = .ok (.aload_n 0, 1) := by decide +kernel
theorem dL_law_314 : decode cL_law 314 = .ok (.iload_n 3, 1) := by decide +kernel
theorem dL_law_315 : decode cL_law 315 = .ok (.iconst 2, 1) := by decide +kernel
theorem dL_law_316 : decode cL_law 316 = .ok (.iadd, 1) := by decide +kernel
theorem dL_law_317 : decode cL_law 317 = .ok (.iaload, 1) := by decide +kernel
theorem dL_law_318 : decode cL_law 318 = .ok (.aload_n 0, 1) := by decide +kernel
theorem dL_law_319 : decode cL_law 319 = .ok (.iload_n 3, 1) := by decide +kernel
theorem dL_law_320 : decode cL_law 320 = .ok (.iconst 3, 1) := by decide +kernel
theorem dL_law_321 : decode cL_law 321 = .ok (.iadd, 1) := by decide +kernel
theorem dL_law_322 : decode cL_law 322 = .ok (.iaload, 1) := by decide +kernel
theorem dL_law_323 : decode cL_law 323 = .ok (.aload_n 0, 1) := by decide +kernel
theorem dL_law_324 : decode cL_law 324 = .ok (.iload_n 3, 1) := by decide +kernel
theorem dL_law_325 : decode cL_law 325 = .ok (.iconst 4, 1) := by decide +kernel
theorem dL_law_326 : decode cL_law 326 = .ok (.iadd, 1) := by decide +kernel
theorem dL_law_327 : decode cL_law 327 = .ok (.iaload, 1) := by decide +kernel
theorem dL_law_328 : decode cL_law 328 = .ok (.invokevirtual 52, 3) := by decide +kernel
theorem dL_law_331 : decode cL_law 331 = .ok (.aload_n 2, 1) := by decide +kernel
theorem dL_law_332 : decode cL_law 332 = .ok (.aload_n 0, 1) := by decide +kernel
theorem dL_law_333 : decode cL_law 333 = .ok (.iload_n 3, 1) := by decide +kernel
theorem dL_law_334 : decode cL_law 334 = .ok (.iconst 1, 1) := by decide +kernel
theorem dL_law_335 : decode cL_law 335 = .ok (.iadd, 1) := by decide +kernel
theorem dL_law_336 : decode cL_law 336 = .ok (.iaload, 1) := by decide +kernel
theorem dL_law_337 : decode cL_law 337 = .ok (.aload_n 0, 1) := by decide +kernel
theorem dL_law_338 : decode cL_law 338 = .ok (.iload_n 3, 1) := by decide +kernel
theorem dL_law_339 : decode cL_law 339 = .ok (.iconst 2, 1) := by decide +kernel
theorem dL_law_340 : decode cL_law 340 = .ok (.iadd, 1) := by decide +kernel
theorem dL_law_341 : decode cL_law 341 = .ok (.iaload, 1) := by decide +kernel
theorem dL_law_342 : decode cL_law 342 = .ok (.aload_n 0, 1) := by decide +kernel
theorem dL_law_343 : decode cL_law 343 = .ok (.iload_n 3, 1) := by decide +kernel
theorem dL_law_344 : decode cL_law 344 = .ok (.iconst 3, 1) := by decide +kernel
theorem dL_law_345 : decode cL_law 345 = .ok (.iadd, 1) := by decide +kernel
theorem dL_law_346 : decode cL_law 346 = .ok (.iaload, 1) := by decide +kernel
theorem dL_law_347 : decode cL_law 347 = .ok (.aload_n 0, 1) := by decide +kernel
theorem dL_law_348 : decode cL_law 348 = .ok (.iload_n 3, 1) := by decide +kernel
theorem dL_law_349 : decode cL_law 349 = .ok (.iconst 4, 1) := by decide +kernel
theorem dL_law_350 : decode cL_law 350 = .ok (.iadd, 1) := by decide +kernel
theorem dL_law_351 : decode cL_law 351 = .ok (.iaload, 1) := by decide +kernel
theorem dL_law_352 : decode cL_law 352 = .ok (.invokevirtual 56, 3) := by decide +kernel
theorem dL_law_355 : decode cL_law 355 = .ok (.if_icmp .eq 329, 3) := by decide +kernel
theorem dL_law_358 : decode cL_law 358 = .ok (.iconst 0, 1) := by decide +kernel
theorem dL_law_359 : decode cL_law 359 = .ok (.ireturn, 1) := by decide +kernel
theorem dL_law_360 : decode cL_law 360 = .ok (.aload_n 1, 1) := by decide +kernel
theorem dL_law_361 : decode cL_law 361 = .ok (.aload_n 0, 1) := by decide +kernel
theorem dL_law_362 : decode cL_law 362 = .ok (.iload_n 3, 1) := by decide +kernel
theorem dL_law_363 : decode cL_law 363 = .ok (.iconst 1, 1) := by decide +kernel
theorem dL_law_364 : decode cL_law 364 = .ok (.iadd, 1) := by decide +kernel
theorem dL_law_365 : decode cL_law 365 = .ok (.iaload, 1) := by decide +kernel
theorem dL_law_366 : decode cL_law 366 = .ok (.aload_n 0, 1) := by decide +kernel
theorem dL_law_367 : decode cL_law 367 = .ok (.iload_n 3, 1) := by decide +kernel
theorem dL_law_368 : decode cL_law 368 = .ok (.iconst 2, 1) := by decide +kernel
theorem dL_law_369 : decode cL_law 369 = .ok (.iadd, 1) := by decide +kernel
theorem dL_law_370 : decode cL_law 370 = .ok (.iaload, 1) := by decide +kernel
theorem dL_law_371 : decode cL_law 371 = .ok (.aload_n 0, 1) := by decide +kernel
theorem dL_law_372 : decode cL_law 372 = .ok (.iload_n 3, 1) := by decide +kernel
theorem dL_law_373 : decode cL_law 373 = .ok (.iconst 3, 1) := by decide +kernel
theorem dL_law_374 : decode cL_law 374 = .ok (.iadd, 1) := by decide +kernel
theorem dL_law_375 : decode cL_law 375 = .ok (.iaload, 1) := by decide +kernel
theorem dL_law_376 : decode cL_law 376 = .ok (.aload_n 0, 1) := by decide +kernel
theorem dL_law_377 : decode cL_law 377 = .ok (.iload_n 3, 1) := by decide +kernel
theorem dL_law_378 : decode cL_law 378 = .ok (.iconst 4, 1) := by decide +kernel
theorem dL_law_379 : decode cL_law 379 = .ok (.iadd, 1) := by decide +kernel
theorem dL_law_380 : decode cL_law 380 = .ok (.iaload, 1) := by decide +kernel
theorem dL_law_381 : decode cL_law 381 = .ok (.invokevirtual 57, 3) := by decide +kernel
theorem dL_law_384 : decode cL_law 384 = .ok (.aload_n 2, 1) := by decide +kernel
theorem dL_law_385 : decode cL_law 385 = .ok (.aload_n 0, 1) := by decide +kernel
theorem dL_law_386 : decode cL_law 386 = .ok (.iload_n 3, 1) := by decide +kernel
theorem dL_law_387 : decode cL_law 387 = .ok (.iconst 1, 1) := by decide +kernel
theorem dL_law_388 : decode cL_law 388 = .ok (.iadd, 1) := by decide +kernel
theorem dL_law_389 : decode cL_law 389 = .ok (.iaload, 1) := by decide +kernel
theorem dL_law_390 : decode cL_law 390 = .ok (.aload_n 0, 1) := by decide +kernel
theorem dL_law_391 : decode cL_law 391 = .ok (.iload_n 3, 1) := by decide +kernel
theorem dL_law_392 : decode cL_law 392 = .ok (.iconst 2, 1) := by decide +kernel
theorem dL_law_393 : decode cL_law 393 = .ok (.iadd, 1) := by decide +kernel
theorem dL_law_394 : decode cL_law 394 = .ok (.iaload, 1) := by decide +kernel
theorem dL_law_395 : decode cL_law 395 = .ok (.aload_n 0, 1) := by decide +kernel
theorem dL_law_396 : decode cL_law 396 = .ok (.iload_n 3, 1) := by decide +kernel
theorem dL_law_397 : decode cL_law 397 = .ok (.iconst 3, 1) := by decide +kernel
theorem dL_law_398 : decode cL_law 398 = .ok (.iadd, 1) := by decide +kernel
theorem dL_law_399 : decode cL_law 399 = .ok (.iaload, 1) := by decide +kernel
theorem dL_law_400 : decode cL_law 400 = .ok (.aload_n 0, 1) := by decide +kernel
theorem dL_law_401 : decode cL_law 401 = .ok (.iload_n 3, 1) := by decide +kernel
theorem dL_law_402 : decode cL_law 402 = .ok (.iconst 4, 1) := by decide +kernel
theorem dL_law_403 : decode cL_law 403 = .ok (.iadd, 1) := by decide +kernel
theorem dL_law_404 : decode cL_law 404 = .ok (.iaload, 1) := by decide +kernel
theorem dL_law_405 : decode cL_law 405 = .ok (.invokevirtual 60, 3) := by decide +kernel
theorem dL_law_408 : decode cL_law 408 = .ok (.if_icmp .eq 276, 3) := by decide +kernel
theorem dL_law_411 : decode cL_law 411 = .ok (.iconst 0, 1) := by decide +kernel
theorem dL_law_412 : decode cL_law 412 = .ok (.ireturn, 1) := by decide +kernel
theorem dL_law_413 : decode cL_law 413 = .ok (.aload_n 1, 1) := by decide +kernel
theorem dL_law_414 : decode cL_law 414 = .ok (.aload_n 0, 1) := by decide +kernel
theorem dL_law_415 : decode cL_law 415 = .ok (.iload_n 3, 1) := by decide +kernel
theorem dL_law_416 : decode cL_law 416 = .ok (.iconst 1, 1) := by decide +kernel
theorem dL_law_417 : decode cL_law 417 = .ok (.iadd, 1) := by decide +kernel
theorem dL_law_418 : decode cL_law 418 = .ok (.iaload, 1) := by decide +kernel
theorem dL_law_419 : decode cL_law 419 = .ok (.aload_n 0, 1) := by decide +kernel
theorem dL_law_420 : decode cL_law 420 = .ok (.iload_n 3, 1) := by decide +kernel
theorem dL_law_421 : decode cL_law 421 = .ok (.iconst 2, 1) := by decide +kernel
theorem dL_law_422 : decode cL_law 422 = .ok (.iadd, 1) := by decide +kernel
theorem dL_law_423 : decode cL_law 423 = .ok (.iaload, 1) := by decide +kernel
theorem dL_law_424 : decode cL_law 424 = .ok (.aload_n 0, 1) := by decide +kernel
theorem dL_law_425 : decode cL_law 425 = .ok (.iload_n 3, 1) := by decide +kernel
theorem dL_law_426 : decode cL_law 426 = .ok (.iconst 3, 1) := by decide +kernel
theorem dL_law_427 : decode cL_law 427 = .ok (.iadd, 1) := by decide +kernel
theorem dL_law_428 : decode cL_law 428 = .ok (.iaload, 1) := by decide +kernel
theorem dL_law_429 : decode cL_law 429 = .ok (.aload_n 0, 1) := by decide +kernel
theorem dL_law_430 : decode cL_law 430 = .ok (.iload_n 3, 1) := by decide +kernel
theorem dL_law_431 : decode cL_law 431 = .ok (.iconst 4, 1) := by decide +kernel
theorem dL_law_432 : decode cL_law 432 = .ok (.iadd, 1) := by decide +kernel
theorem dL_law_433 : decode cL_law 433 = .ok (.iaload, 1) := by decide +kernel
theorem dL_law_434 : decode cL_law 434 = .ok (.aload_n 0, 1) := by decide +kernel
theorem dL_law_435 : decode cL_law 435 = .ok (.iload_n 3, 1) := by decide +kernel
theorem dL_law_436 : decode cL_law 436 = .ok (.iconst 5, 1) := by decide +kernel
theorem dL_law_437 : decode cL_law 437 = .ok (.iadd, 1) := by decide +kernel
theorem dL_law_438 : decode cL_law 438 = .ok (.iaload, 1) := by decide +kernel
theorem dL_law_439 : decode cL_law 439 = .ok (.invokevirtual 61, 3) := by decide +kernel
theorem dL_law_442 : decode cL_law 442 = .ok (.aload_n 2, 1) := by decide +kernel
theorem dL_law_443 : decode cL_law 443 = .ok (.aload_n 0, 1) := by decide +kernel
theorem dL_law_444 : decode cL_law 444 = .ok (.iload_n 3, 1) := by decide +kernel
theorem dL_law_445 : decode cL_law 445 = .ok (.iconst 1, 1) := by decide +kernel
theorem dL_law_446 : decode cL_law 446 = .ok (.iadd, 1) := by decide +kernel
theorem dL_law_447 : decode cL_law 447 = .ok (.iaload, 1) := by decide +kernel
theorem dL_law_448 : decode cL_law 448 = .ok (.aload_n 0, 1) := by decide +kernel
theorem dL_law_449 : decode cL_law 449 = .ok (.iload_n 3, 1) := by decide +kernel
theorem dL_law_450 : decode cL_law 450 = .ok (.iconst 2, 1) := by decide +kernel
theorem dL_law_451 : decode cL_law 451 = .ok (.iadd, 1) := by decide +kernel
theorem dL_law_452 : decode cL_law 452 = .ok (.iaload, 1) := by decide +kernel
theorem dL_law_453 : decode cL_law 453 = .ok (.aload_n 0, 1) := by decide +kernel
theorem dL_law_454 : decode cL_law 454 = .ok (.iload_n 3, 1) := by decide +kernel
theorem dL_law_455 : decode cL_law 455 = .ok (.iconst 3, 1) := by decide +kernel
theorem dL_law_456 : decode cL_law 456 = .ok (.iadd, 1) := by decide +kernel
theorem dL_law_457 : decode cL_law 457 = .ok (.iaload, 1) := by decide +kernel
theorem dL_law_458 : decode cL_law 458 = .ok (.aload_n 0, 1) := by decide +kernel
theorem dL_law_459 : decode cL_law 459 = .ok (.iload_n 3, 1) := by decide +kernel
theorem dL_law_460 : decode cL_law 460 = .ok (.iconst 4, 1) := by decide +kernel
theorem dL_law_461 : decode cL_law 461 = .ok (.iadd, 1) := by decide +kernel
theorem dL_law_462 : decode cL_law 462 = .ok (.iaload, 1) := by decide +kernel
theorem dL_law_463 : decode cL_law 463 = .ok (.aload_n 0, 1) := by decide +kernel
theorem dL_law_464 : decode cL_law 464 = .ok (.iload_n 3, 1) := by decide +kernel
theorem dL_law_465 : decode cL_law 465 = .ok (.iconst 5, 1) := by decide +kernel
theorem dL_law_466 : decode cL_law 466 = .ok (.iadd, 1) := by decide +kernel
theorem dL_law_467 : decode cL_law 467 = .ok (.iaload, 1) := by decide +kernel
theorem dL_law_468 : decode cL_law 468 = .ok (.invokevirtual 65, 3) := by decide +kernel
theorem dL_law_471 : decode cL_law 471 = .ok (.if_icmp .eq 213, 3) := by decide +kernel
theorem dL_law_474 : decode cL_law 474 = .ok (.iconst 0, 1) := by decide +kernel
theorem dL_law_475 : decode cL_law 475 = .ok (.ireturn, 1) := by decide +kernel
theorem dL_law_476 : decode cL_law 476 = .ok (.aload_n 1, 1) := by decide +kernel
theorem dL_law_477 : decode cL_law 477 = .ok (.aload_n 0, 1) := by decide +kernel
theorem dL_law_478 : decode cL_law 478 = .ok (.iload_n 3, 1) := by decide +kernel
theorem dL_law_479 : decode cL_law 479 = .ok (.iconst 1, 1) := by decide +kernel
theorem dL_law_480 : decode cL_law 480 = .ok (.iadd, 1) := by decide +kernel
theorem dL_law_481 : decode cL_law 481 = .ok (.iaload, 1) := by decide +kernel
theorem dL_law_482 : decode cL_law 482 = .ok (.aload_n 0, 1) := by decide +kernel
theorem dL_law_483 : decode cL_law 483 = .ok (.iload_n 3, 1) := by decide +kernel
theorem dL_law_484 : decode cL_law 484 = .ok (.iconst 2, 1) := by decide +kernel
theorem dL_law_485 : decode cL_law 485 = .ok (.iadd, 1) := by decide +kernel
theorem dL_law_486 : decode cL_law 486 = .ok (.iaload, 1) := by decide +kernel
theorem dL_law_487 : decode cL_law 487 = .ok (.aload_n 0, 1) := by decide +kernel
theorem dL_law_488 : decode cL_law 488 = .ok (.iload_n 3, 1) := by decide +kernel
theorem dL_law_489 : decode cL_law 489 = .ok (.iconst 3, 1) := by decide +kernel
theorem dL_law_490 : decode cL_law 490 = .ok (.iadd, 1) := by decide +kernel
theorem dL_law_491 : decode cL_law 491 = .ok (.iaload, 1) := by decide +kernel
theorem dL_law_492 : decode cL_law 492 = .ok (.invokevirtual 66, 3) := by decide +kernel
theorem dL_law_495 : decode cL_law 495 = .ok (.aload_n 2, 1) := by decide +kernel
theorem dL_law_496 : decode cL_law 496 = .ok (.aload_n 0, 1) := by decide +kernel
theorem dL_law_497 : decode cL_law 497 = .ok (.iload_n 3, 1) := by decide +kernel
theorem dL_law_498 : decode cL_law 498 = .ok (.iconst 1, 1) := by decide +kernel
theorem dL_law_499 : decode cL_law 499 = .ok (.iadd, 1) := by decide +kernel
theorem dL_law_500 : decode cL_law 500 = .ok (.iaload, 1) := by decide +kernel
theorem dL_law_501 : decode cL_law 501 = .ok (.aload_n 0, 1) := by decide +kernel
theorem dL_law_502 : decode cL_law 502 = .ok (.iload_n 3, 1) := by decide +kernel
theorem dL_law_503 : decode cL_law 503 = .ok (.iconst 2, 1) := by decide +kernel
theorem dL_law_504 : decode cL_law 504 = .ok (.iadd, 1) := by decide +kernel
theorem dL_law_505 : decode cL_law 505 = .ok (.iaload, 1) := by decide +kernel
theorem dL_law_506 : decode cL_law 506 = .ok (.aload_n 0, 1) := by decide +kernel
theorem dL_law_507 : decode cL_law 507 = .ok (.iload_n 3, 1) := by decide +kernel
theorem dL_law_508 : decode cL_law 508 = .ok (.iconst 3, 1) := by decide +kernel
theorem dL_law_509 : decode cL_law 509 = .ok (.iadd, 1) := by decide +kernel
theorem dL_law_510 : decode cL_law 510 = .ok (.iaload, 1) := by decide +kernel
theorem dL_law_511 : decode cL_law 511 = .ok (.invokevirtual 70, 3) := by decide +kernel
theorem dL_law_514 : decode cL_law 514 = .ok (.if_icmp .eq 170, 3) := by decide +kernel
theorem dL_law_517 : decode cL_law 517 = .ok (.iconst 0, 1) := by decide +kernel
theorem dL_law_518 : decode cL_law 518 = .ok (.ireturn, 1) := by decide +kernel
theorem dL_law_519 : decode cL_law 519 = .ok (.aload_n 1, 1) := by decide +kernel
theorem dL_law_520 : decode cL_law 520 = .ok (.aload_n 0, 1) := by decide +kernel
theorem dL_law_521 : decode cL_law 521 = .ok (.iload_n 3, 1) := by decide +kernel
theorem dL_law_522 : decode cL_law 522 = .ok (.iconst 1, 1) := by decide +kernel
theorem dL_law_523 : decode cL_law 523 = .ok (.iadd, 1) := by decide +kernel
theorem dL_law_524 : decode cL_law 524 = .ok (.iaload, 1) := by decide +kernel
theorem dL_law_525 : decode cL_law 525 = .ok (.aload_n 0, 1) := by decide +kernel
theorem dL_law_526 : decode cL_law 526 = .ok (.iload_n 3, 1) := by decide +kernel
theorem dL_law_527 : decode cL_law 527 = .ok (.iconst 2, 1) := by decide +kernel
theorem dL_law_528 : decode cL_law 528 = .ok (.iadd, 1) := by decide +kernel
theorem dL_law_529 : decode cL_law 529 = .ok (.iaload, 1) := by decide +kernel
theorem dL_law_530 : decode cL_law 530 = .ok (.aload_n 0, 1) := by decide +kernel
theorem dL_law_531 : decode cL_law 531 = .ok (.iload_n 3, 1) := by decide +kernel
theorem dL_law_532 : decode cL_law 532 = .ok (.iconst 3, 1) := by decide +kernel
theorem dL_law_533 : decode cL_law 533 = .ok (.iadd, 1) := by decide +kernel
theorem dL_law_534 : decode cL_law 534 = .ok (.iaload, 1) := by decide +kernel
theorem dL_law_535 : decode cL_law 535 = .ok (.invokevirtual 71, 3) := by decide +kernel
theorem dL_law_538 : decode cL_law 538 = .ok (.aload_n 2, 1) := by decide +kernel
theorem dL_law_539 : decode cL_law 539 = .ok (.aload_n 0, 1) := by decide +kernel
theorem dL_law_540 : decode cL_law 540 = .ok (.iload_n 3, 1) := by decide +kernel
theorem dL_law_541 : decode cL_law 541 = .ok (.iconst 1, 1) := by decide +kernel
theorem dL_law_542 : decode cL_law 542 = .ok (.iadd, 1) := by decide +kernel
theorem dL_law_543 : decode cL_law 543 = .ok (.iaload, 1) := by decide +kernel
theorem dL_law_544 : decode cL_law 544 = .ok (.aload_n 0, 1) := by decide +kernel
theorem dL_law_545 : decode cL_law 545 = .ok (.iload_n 3, 1) := by decide +kernel
theorem dL_law_546 : decode cL_law 546 = .ok (.iconst 2, 1) := by decide +kernel
theorem dL_law_547 : decode cL_law 547 = .ok (.iadd, 1) := by decide +kernel
theorem dL_law_548 : decode cL_law 548 = .ok (.iaload, 1) := by decide +kernel
theorem dL_law_549 : decode cL_law 549 = .ok (.aload_n 0, 1) := by decide +kernel
theorem dL_law_550 : decode cL_law 550 = .ok (.iload_n 3, 1) := by decide +kernel
theorem dL_law_551 : decode cL_law 551 = .ok (.iconst 3, 1) := by decide +kernel
theorem dL_law_552 : decode cL_law 552 = .ok (.iadd, 1) := by decide +kernel
theorem dL_law_553 : decode cL_law 553 = .ok (.iaload, 1) := by decide +kernel
theorem dL_law_554 : decode cL_law 554 = .ok (.invokevirtual 74, 3) := by decide +kernel
theorem dL_law_557 : decode cL_law 557 = .ok (.if_icmp .eq 127, 3) := by decide +kernel
theorem dL_law_560 : decode cL_law 560 = .ok (.iconst 0, 1) := by decide +kernel
theorem dL_law_561 : decode cL_law 561 = .ok (.ireturn, 1) := by decide +kernel
theorem dL_law_562 : decode cL_law 562 = .ok (.aload_n 1, 1) := by decide +kernel
theorem dL_law_563 : decode cL_law 563 = .ok (.aload_n 0, 1) := by decide +kernel
theorem dL_law_564 : decode cL_law 564 = .ok (.iload_n 3, 1) := by decide +kernel
theorem dL_law_565 : decode cL_law 565 = .ok (.iconst 1, 1) := by decide +kernel
theorem dL_law_566 : decode cL_law 566 = .ok (.iadd, 1) := by decide +kernel
theorem dL_law_567 : decode cL_law 567 = .ok (.iaload, 1) := by decide +kernel
theorem dL_law_568 : decode cL_law 568 = .ok (.aload_n 0, 1) := by decide +kernel
theorem dL_law_569 : decode cL_law 569 = .ok (.iload_n 3, 1) := by decide +kernel
theorem dL_law_570 : decode cL_law 570 = .ok (.iconst 2, 1) := by decide +kernel
theorem dL_law_571 : decode cL_law 571 = .ok (.iadd, 1) := by decide +kernel
theorem dL_law_572 : decode cL_law 572 = .ok (.iaload, 1) := by decide +kernel
theorem dL_law_573 : decode cL_law 573 = .ok (.invokevirtual 75, 3) := by decide +kernel
theorem dL_law_576 : decode cL_law 576 = .ok (.aload_n 2, 1) := by decide +kernel
theorem dL_law_577 : decode cL_law 577 = .ok (.aload_n 0, 1) := by decide +kernel
theorem dL_law_578 : decode cL_law 578 = .ok (.iload_n 3, 1) := by decide +kernel
theorem dL_law_579 : decode cL_law 579 = .ok (.iconst 1, 1) := by decide +kernel
theorem dL_law_580 : decode cL_law 580 = .ok (.iadd, 1) := by decide +kernel
theorem dL_law_581 : decode cL_law 581 = .ok (.iaload, 1) := by decide +kernel
theorem dL_law_582 : decode cL_law 582 = .ok (.aload_n 0, 1) := by decide +kernel
theorem dL_law_583 : decode cL_law 583 = .ok (.iload_n 3, 1) := by decide +kernel
theorem dL_law_584 : decode cL_law 584 = .ok (.iconst 2, 1) := by decide +kernel
theorem dL_law_585 : decode cL_law 585 = .ok (.iadd, 1) := by decide +kernel
theorem dL_law_586 : decode cL_law 586 = .ok (.iaload, 1) := by decide +kernel
theorem dL_law_587 : decode cL_law 587 = .ok (.invokevirtual 78, 3) := by decide +kernel
theorem dL_law_590 : decode cL_law 590 = .ok (.if_icmp .eq 94, 3) := by decide +kernel
theorem dL_law_593 : decode cL_law 593 = .ok (.iconst 0, 1) := by decide +kernel
theorem dL_law_594 : decode cL_law 594 = .ok (.ireturn, 1) := by decide +kernel
theorem dL_law_595 : decode cL_law 595 = .ok (.aload_n 1, 1) := by decide +kernel
theorem dL_law_596 : decode cL_law 596 = .ok (.aload_n 0, 1) := by decide +kernel
theorem dL_law_597 : decode cL_law 597 = .ok (.iload_n 3, 1) := by decide +kernel
theorem dL_law_598 : decode cL_law 598 = .ok (.iconst 1, 1) := by decide +kernel
theorem dL_law_599 : decode cL_law 599 = .ok (.iadd, 1) := by decide +kernel
theorem dL_law_600 : decode cL_law 600 = .ok (.iaload, 1) := by decide +kernel
theorem dL_law_601 : decode cL_law 601 = .ok (.aload_n 0, 1) := by decide +kernel
theorem dL_law_602 : decode cL_law 602 = .ok (.iload_n 3, 1) := by decide +kernel
theorem dL_law_603 : decode cL_law 603 = .ok (.iconst 2, 1) := by decide +kernel
theorem dL_law_604 : decode cL_law 604 = .ok (.iadd, 1) := by decide +kernel
theorem dL_law_605 : decode cL_law 605 = .ok (.iaload, 1) := by decide +kernel
theorem dL_law_606 : decode cL_law 606 = .ok (.aload_n 0, 1) := by decide +kernel
theorem dL_law_607 : decode cL_law 607 = .ok (.iload_n 3, 1) := by decide +kernel
theorem dL_law_608 : decode cL_law 608 = .ok (.iconst 3, 1) := by decide +kernel
theorem dL_law_609 : decode cL_law 609 = .ok (.iadd, 1) := by decide +kernel
theorem dL_law_610 : decode cL_law 610 = .ok (.iaload, 1) := by decide +kernel
theorem dL_law_611 : decode cL_law 611 = .ok (.invokevirtual 79, 3) := by decide +kernel
theorem dL_law_614 : decode cL_law 614 = .ok (.aload_n 2, 1) := by decide +kernel
theorem dL_law_615 : decode cL_law 615 = .ok (.aload_n 0, 1) := by decide +kernel
theorem dL_law_616 : decode cL_law 616 = .ok (.iload_n 3, 1) := by decide +kernel
theorem dL_law_617 : decode cL_law 617 = .ok (.iconst 1, 1) := by decide +kernel
theorem dL_law_618 : decode cL_law 618 = .ok (.iadd, 1) := by decide +kernel
theorem dL_law_619 : decode cL_law 619 = .ok (.iaload, 1) := by decide +kernel
theorem dL_law_620 : decode cL_law 620 = .ok (.aload_n 0, 1) := by decide +kernel
theorem dL_law_621 : decode cL_law 621 = .ok (.iload_n 3, 1) := by decide +kernel
theorem dL_law_622 : decode cL_law 622 = .ok (.iconst 2, 1) := by decide +kernel
theorem dL_law_623 : decode cL_law 623 = .ok (.iadd, 1) := by decide +kernel
theorem dL_law_624 : decode cL_law 624 = .ok (.iaload, 1) := by decide +kernel
theorem dL_law_625 : decode cL_law 625 = .ok (.aload_n 0, 1) := by decide +kernel
theorem dL_law_626 : decode cL_law 626 = .ok (.iload_n 3, 1) := by decide +kernel
theorem dL_law_627 : decode cL_law 627 = .ok (.iconst 3, 1) := by decide +kernel
theorem dL_law_628 : decode cL_law 628 = .ok (.iadd, 1) := by decide +kernel
theorem dL_law_629 : decode cL_law 629 = .ok (.iaload, 1) := by decide +kernel
theorem dL_law_630 : decode cL_law 630 = .ok (.invokevirtual 82, 3) := by decide +kernel
theorem dL_law_633 : decode cL_law 633 = .ok (.if_icmp .eq 51, 3) := by decide +kernel
theorem dL_law_636 : decode cL_law 636 = .ok (.iconst 0, 1) := by decide +kernel
theorem dL_law_637 : decode cL_law 637 = .ok (.ireturn, 1) := by decide +kernel
theorem dL_law_638 : decode cL_law 638 = .ok (.aload_n 1, 1) := by decide +kernel
theorem dL_law_639 : decode cL_law 639 = .ok (.aload_n 0, 1) := by decide +kernel
theorem dL_law_640 : decode cL_law 640 = .ok (.iload_n 3, 1) := by decide +kernel
theorem dL_law_641 : decode cL_law 641 = .ok (.iconst 1, 1) := by decide +kernel
theorem dL_law_642 : decode cL_law 642 = .ok (.iadd, 1) := by decide +kernel
theorem dL_law_643 : decode cL_law 643 = .ok (.iaload, 1) := by decide +kernel
theorem dL_law_644 : decode cL_law 644 = .ok (.invokevirtual 83, 3) := by decide +kernel
theorem dL_law_647 : decode cL_law 647 = .ok (.aload_n 2, 1) := by decide +kernel
theorem dL_law_648 : decode cL_law 648 = .ok (.aload_n 0, 1) := by decide +kernel
theorem dL_law_649 : decode cL_law 649 = .ok (.iload_n 3, 1) := by decide +kernel
theorem dL_law_650 : decode cL_law 650 = .ok (.iconst 1, 1) := by decide +kernel
theorem dL_law_651 : decode cL_law 651 = .ok (.iadd, 1) := by decide +kernel
theorem dL_law_652 : decode cL_law 652 = .ok (.iaload, 1) := by decide +kernel
theorem dL_law_653 : decode cL_law 653 = .ok (.invokevirtual 86, 3) := by decide +kernel
theorem dL_law_656 : decode cL_law 656 = .ok (.if_icmp .eq 28, 3) := by decide +kernel
theorem dL_law_659 : decode cL_law 659 = .ok (.iconst 0, 1) := by decide +kernel
theorem dL_law_660 : decode cL_law 660 = .ok (.ireturn, 1) := by decide +kernel
theorem dL_law_661 : decode cL_law 661 = .ok (.aload_n 1, 1) := by decide +kernel
theorem dL_law_662 : decode cL_law 662 = .ok (.aload_n 0, 1) := by decide +kernel
theorem dL_law_663 : decode cL_law 663 = .ok (.iload_n 3, 1) := by decide +kernel
theorem dL_law_664 : decode cL_law 664 = .ok (.iconst 1, 1) := by decide +kernel
theorem dL_law_665 : decode cL_law 665 = .ok (.iadd, 1) := by decide +kernel
theorem dL_law_666 : decode cL_law 666 = .ok (.iaload, 1) := by decide +kernel
theorem dL_law_667 : decode cL_law 667 = .ok (.invokevirtual 87, 3) := by decide +kernel
theorem dL_law_670 : decode cL_law 670 = .ok (.aload_n 2, 1) := by decide +kernel
theorem dL_law_671 : decode cL_law 671 = .ok (.aload_n 0, 1) := by decide +kernel
theorem dL_law_672 : decode cL_law 672 = .ok (.iload_n 3, 1) := by decide +kernel
theorem dL_law_673 : decode cL_law 673 = .ok (.iconst 1, 1) := by decide +kernel
theorem dL_law_674 : decode cL_law 674 = .ok (.iadd, 1) := by decide +kernel
theorem dL_law_675 : decode cL_law 675 = .ok (.iaload, 1) := by decide +kernel
theorem dL_law_676 : decode cL_law 676 = .ok (.invokevirtual 90, 3) := by decide +kernel
theorem dL_law_679 : decode cL_law 679 = .ok (.if_icmp .eq 5, 3) := by decide +kernel
theorem dL_law_682 : decode cL_law 682 = .ok (.iconst 0, 1) := by decide +kernel
theorem dL_law_683 : decode cL_law 683 = .ok (.ireturn, 1) := by decide +kernel
theorem dL_law_684 : decode cL_law 684 = .ok (.iinc 3 6, 3) := by decide +kernel
theorem dL_law_687 : decode cL_law 687 = .ok (.goto (-669), 3) := by decide +kernel
theorem dL_law_690 : decode cL_law 690 = .ok (.iconst 1, 1) := by decide +kernel
theorem dL_law_691 : decode cL_law 691 = .ok (.ireturn, 1) := by decide +kernel
end
section
abbrev mX7_init : xY := (yX7_init, cX7_init, 2, none)
theorem pm_X7_init : xMth mX7_init 0 := ⟨kp_code_yX7_init, kp_init_RX7, ⟨⟨by decide +kernel, by decide +kernel⟩, by decide +kernel⟩, by decide +kernel⟩
abbrev mX5_init : xY := (yX5_init, cX5_init, 1, none)
theorem pm_X5_init : xMth mX5_init 0 := ⟨kp_code_yX5_init, kp_init_RX5, ⟨⟨by decide +kernel, by decide +kernel⟩, by decide +kernel⟩, by decide +kernel⟩
abbrev mX1_init : xY := (yX1_init, cX1_init, 1, none)
theorem pm_X1_init : xMth mX1_init 0 := ⟨kp_code_yX1_init, kp_init_RX1, ⟨⟨by decide +kernel, by decide +kernel⟩, by decide +kernel⟩, by decide +kernel⟩
abbrev mX3_init : xY := (yX3_init, cX3_init, 3, none)
theorem pm_X3_init : xMth mX3_init 2 := ⟨kp_code_yX3_init, kp_init_RX3, ⟨⟨by decide +kernel, by decide +kernel⟩, by decide +kernel⟩, by decide +kernel⟩
abbrev mX0_init : xY := (yX0_init, cX0_init, 2, none)
theorem pm_X0_init : xMth mX0_init 0 := ⟨kp_code_yX0_init, kp_init_RX0, ⟨⟨by decide +kernel, by decide +kernel⟩, by decide +kernel⟩, by decide +kernel⟩
abbrev mX4_init : xY := (yX4_init, cX4_init, 1, none)
theorem pm_X4_init : xMth mX4_init 0 := ⟨kp_code_yX4_init, kp_init_RX4, ⟨⟨by decide +kernel, by decide +kernel⟩, by decide +kernel⟩, by decide +kernel⟩
abbrev mX6_init : xY := (yX6_init, cX6_init, 1, none)
theorem pm_X6_init : xMth mX6_init 0 := ⟨kp_code_yX6_init, kp_init_RX6, ⟨⟨by decide +kernel, by decide +kernel⟩, by decide +kernel⟩, by decide +kernel⟩
abbrev mX2_init : xY := (yX2_init, cX2_init, 1, none)
theorem pm_X2_init : xMth mX2_init 0 := ⟨kp_code_yX2_init, kp_init_RX2, ⟨⟨by decide +kernel, by decide +kernel⟩, by decide +kernel⟩, by decide +kernel⟩
abbrev mX8_init : xY := (yX8_init, cX8_init, 1, none)
theorem pm_X8_init : xMth mX8_init 0 := ⟨kp_code_yX8_init, kp_init_RX8, ⟨⟨by decide +kernel, by decide +kernel⟩, by decide +kernel⟩, by decide +kernel⟩
abbrev mX7_append : xY := (yX7_append, cX7_append, 2, (some .int))
theorem pm_X7_append : xMth mX7_append 1 := ⟨kp_code_yX7_append, kp_init_RX7, ⟨⟨by decide +kernel, by decide +kernel⟩, by decide +kernel⟩, by decide +kernel⟩
theorem pi_X7_append : Cond.instanceMethod yX7_append ∈ xWs ∧ Cond.selects yX7_append.cls yX7_append yX7_append ∈ xWs := ⟨kp_instanceMethod_yX7_append, kp_selects_yX7_append⟩
abbrev mX7_isWithin : xY := (yX7_isWithin, cX7_isWithin, 3, (some .boolean))
theorem pm_X7_isWithin : xMth mX7_isWithin 3 := ⟨kp_code_yX7_isWithin, kp_init_RX7, ⟨⟨by decide +kernel, by decide +kernel⟩, by decide +kernel⟩, by decide +kernel⟩
abbrev mX5_isFull : xY := (yX5_isFull, cX5_isFull, 1, (some .boolean))
theorem pm_X5_isFull : xMth mX5_isFull 0 := ⟨kp_code_yX5_isFull, kp_init_RX5, ⟨⟨by decide +kernel, by decide +kernel⟩, by decide +kernel⟩, by decide +kernel⟩
theorem pi_X5_isFull : Cond.instanceMethod yX5_isFull ∈ xWs ∧ Cond.selects yX5_isFull.cls yX5_isFull yX5_isFull ∈ xWs := ⟨kp_instanceMethod_yX5_isFull, kp_selects_yX5_isFull⟩
abbrev mX5_add : xY := (yX5_add, cX5_add, 2, none)
theorem pm_X5_add : xMth mX5_add 1 := ⟨kp_code_yX5_add, kp_init_RX5, ⟨⟨by decide +kernel, by decide +kernel⟩, by decide +kernel⟩, by decide +kernel⟩
theorem pi_X5_add : Cond.instanceMethod yX5_add ∈ xWs ∧ Cond.selects yX5_add.cls yX5_add yX5_add ∈ xWs := ⟨kp_instanceMethod_yX5_add, kp_selects_yX5_add⟩
abbrev mX8_append : xY := (yX8_append, cX8_append, 2, (some .int))
theorem pm_X8_append : xMth mX8_append 1 := ⟨kp_code_yX8_append, kp_init_RX8, ⟨⟨by decide +kernel, by decide +kernel⟩, by decide +kernel⟩, by decide +kernel⟩
theorem pi_X8_append : Cond.instanceMethod yX8_append ∈ xWs ∧ Cond.selects yX8_append.cls yX8_append yX8_append ∈ xWs := ⟨kp_instanceMethod_yX8_append, kp_selects_yX8_append⟩
abbrev mX8_within : xY := (yX8_within, cX8_within, 3, (some .boolean))
theorem pm_X8_within : xMth mX8_within 3 := ⟨kp_code_yX8_within, kp_init_RX8, ⟨⟨by decide +kernel, by decide +kernel⟩, by decide +kernel⟩, by decide +kernel⟩
abbrev mX7_clearText : xY := (yX7_clearText, cX7_clearText, 2, (some .int))
theorem pm_X7_clearText : xMth mX7_clearText 0 := ⟨kp_code_yX7_clearText, kp_init_RX7, ⟨⟨by decide +kernel, by decide +kernel⟩, by decide +kernel⟩, by decide +kernel⟩
theorem pi_X7_clearText : Cond.instanceMethod yX7_clearText ∈ xWs ∧ Cond.selects yX7_clearText.cls yX7_clearText yX7_clearText ∈ xWs := ⟨kp_instanceMethod_yX7_clearText, kp_selects_yX7_clearText⟩
abbrev mX8_clearText : xY := (yX8_clearText, cX8_clearText, 2, (some .int))
theorem pm_X8_clearText : xMth mX8_clearText 0 := ⟨kp_code_yX8_clearText, kp_init_RX8, ⟨⟨by decide +kernel, by decide +kernel⟩, by decide +kernel⟩, by decide +kernel⟩
theorem pi_X8_clearText : Cond.instanceMethod yX8_clearText ∈ xWs ∧ Cond.selects yX8_clearText.cls yX8_clearText yX8_clearText ∈ xWs := ⟨kp_instanceMethod_yX8_clearText, kp_selects_yX8_clearText⟩
abbrev mX7_read : xY := (yX7_read, cX7_read, 3, (some .int))
theorem pm_X7_read : xMth mX7_read 1 := ⟨kp_code_yX7_read, kp_init_RX7, ⟨⟨by decide +kernel, by decide +kernel⟩, by decide +kernel⟩, by decide +kernel⟩
theorem pi_X7_read : Cond.instanceMethod yX7_read ∈ xWs ∧ Cond.selects yX7_read.cls yX7_read yX7_read ∈ xWs := ⟨kp_instanceMethod_yX7_read, kp_selects_yX7_read⟩
abbrev mX7_isProgram : xY := (yX7_isProgram, cX7_isProgram, 1, (some .boolean))
theorem pm_X7_isProgram : xMth mX7_isProgram 1 := ⟨kp_code_yX7_isProgram, kp_init_RX7, ⟨⟨by decide +kernel, by decide +kernel⟩, by decide +kernel⟩, by decide +kernel⟩
abbrev mX3_readDraft : xY := (yX3_readDraft, cX3_readDraft, 3, (some .boolean))
theorem pm_X3_readDraft : xMth mX3_readDraft 0 := ⟨kp_code_yX3_readDraft, kp_init_RX3, ⟨⟨by decide +kernel, by decide +kernel⟩, by decide +kernel⟩, by decide +kernel⟩
theorem pi_X3_readDraft : Cond.instanceMethod yX3_readDraft ∈ xWs ∧ Cond.selects yX3_readDraft.cls yX3_readDraft yX3_readDraft ∈ xWs := ⟨kp_instanceMethod_yX3_readDraft, kp_selects_yX3_readDraft⟩
abbrev mX3_nextSign : xY := (yX3_nextSign, cX3_nextSign, 2, (some .int))
theorem pm_X3_nextSign : xMth mX3_nextSign 0 := ⟨kp_code_yX3_nextSign, kp_init_RX3, ⟨⟨by decide +kernel, by decide +kernel⟩, by decide +kernel⟩, by decide +kernel⟩
theorem pi_X3_nextSign : Cond.instanceMethod yX3_nextSign ∈ xWs ∧ Cond.selects yX3_nextSign.cls yX3_nextSign yX3_nextSign ∈ xWs := ⟨kp_instanceMethod_yX3_nextSign, kp_selects_yX3_nextSign⟩
abbrev mX5_signAt : xY := (yX5_signAt, cX5_signAt, 2, (some .int))
theorem pm_X5_signAt : xMth mX5_signAt 1 := ⟨kp_code_yX5_signAt, kp_init_RX5, ⟨⟨by decide +kernel, by decide +kernel⟩, by decide +kernel⟩, by decide +kernel⟩
theorem pi_X5_signAt : Cond.instanceMethod yX5_signAt ∈ xWs ∧ Cond.selects yX5_signAt.cls yX5_signAt yX5_signAt ∈ xWs := ⟨kp_instanceMethod_yX5_signAt, kp_selects_yX5_signAt⟩
abbrev mX3_awaitedSign : xY := (yX3_awaitedSign, cX3_awaitedSign, 1, (some .int))
theorem pm_X3_awaitedSign : xMth mX3_awaitedSign 0 := ⟨kp_code_yX3_awaitedSign, kp_init_RX3, ⟨⟨by decide +kernel, by decide +kernel⟩, by decide +kernel⟩, by decide +kernel⟩
theorem pi_X3_awaitedSign : Cond.instanceMethod yX3_awaitedSign ∈ xWs ∧ Cond.selects yX3_awaitedSign.cls yX3_awaitedSign yX3_awaitedSign ∈ xWs := ⟨kp_instanceMethod_yX3_awaitedSign, kp_selects_yX3_awaitedSign⟩
abbrev mX3_readStatement : xY := (yX3_readStatement, cX3_readStatement, 2, (some .boolean))
theorem pm_X3_readStatement : xMth mX3_readStatement 1 := ⟨kp_code_yX3_readStatement, kp_init_RX3, ⟨⟨by decide +kernel, by decide +kernel⟩, by decide +kernel⟩, by decide +kernel⟩
theorem pi_X3_readStatement : Cond.instanceMethod yX3_readStatement ∈ xWs ∧ Cond.selects yX3_readStatement.cls yX3_readStatement yX3_readStatement ∈ xWs := ⟨kp_instanceMethod_yX3_readStatement, kp_selects_yX3_readStatement⟩
abbrev mX1_isFull : xY := (yX1_isFull, cX1_isFull, 1, (some .boolean))
theorem pm_X1_isFull : xMth mX1_isFull 0 := ⟨kp_code_yX1_isFull, kp_init_RX1, ⟨⟨by decide +kernel, by decide +kernel⟩, by decide +kernel⟩, by decide +kernel⟩
theorem pi_X1_isFull : Cond.instanceMethod yX1_isFull ∈ xWs ∧ Cond.selects yX1_isFull.cls yX1_isFull yX1_isFull ∈ xWs := ⟨kp_instanceMethod_yX1_isFull, kp_selects_yX1_isFull⟩
abbrev mX3_readTell : xY := (yX3_readTell, cX3_readTell, 2, (some .boolean))
theorem pm_X3_readTell : xMth mX3_readTell 0 := ⟨kp_code_yX3_readTell, kp_init_RX3, ⟨⟨by decide +kernel, by decide +kernel⟩, by decide +kernel⟩, by decide +kernel⟩
theorem pi_X3_readTell : Cond.instanceMethod yX3_readTell ∈ xWs ∧ Cond.selects yX3_readTell.cls yX3_readTell yX3_readTell ∈ xWs := ⟨kp_instanceMethod_yX3_readTell, kp_selects_yX3_readTell⟩
abbrev mX3_takeCell : xY := (yX3_takeCell, cX3_takeCell, 2, (some .int))
theorem pm_X3_takeCell : xMth mX3_takeCell 0 := ⟨kp_code_yX3_takeCell, kp_init_RX3, ⟨⟨by decide +kernel, by decide +kernel⟩, by decide +kernel⟩, by decide +kernel⟩
theorem pi_X3_takeCell : Cond.instanceMethod yX3_takeCell ∈ xWs ∧ Cond.selects yX3_takeCell.cls yX3_takeCell yX3_takeCell ∈ xWs := ⟨kp_instanceMethod_yX3_takeCell, kp_selects_yX3_takeCell⟩
abbrev mX7_isCell : xY := (yX7_isCell, cX7_isCell, 1, (some .boolean))
theorem pm_X7_isCell : xMth mX7_isCell 1 := ⟨kp_code_yX7_isCell, kp_init_RX7, ⟨⟨by decide +kernel, by decide +kernel⟩, by decide +kernel⟩, by decide +kernel⟩
abbrev mX3_take : xY := (yX3_take, cX3_take, 2, (some .boolean))
theorem pm_X3_take : xMth mX3_take 1 := ⟨kp_code_yX3_take, kp_init_RX3, ⟨⟨by decide +kernel, by decide +kernel⟩, by decide +kernel⟩, by decide +kernel⟩
theorem pi_X3_take : Cond.instanceMethod yX3_take ∈ xWs ∧ Cond.selects yX3_take.cls yX3_take yX3_take ∈ xWs := ⟨kp_instanceMethod_yX3_take, kp_selects_yX3_take⟩
abbrev mX3_innermost : xY := (yX3_innermost, cX3_innermost, 1, (some .int))
theorem pm_X3_innermost : xMth mX3_innermost 0 := ⟨kp_code_yX3_innermost, kp_init_RX3, ⟨⟨by decide +kernel, by decide +kernel⟩, by decide +kernel⟩, by decide +kernel⟩
theorem pi_X3_innermost : Cond.instanceMethod yX3_innermost ∈ xWs ∧ Cond.selects yX3_innermost.cls yX3_innermost yX3_innermost ∈ xWs := ⟨kp_instanceMethod_yX3_innermost, kp_selects_yX3_innermost⟩
abbrev mX1_add : xY := (yX1_add, cX1_add, 4, (some .boolean))
theorem pm_X1_add : xMth mX1_add 3 := ⟨kp_code_yX1_add, kp_init_RX1, ⟨⟨by decide +kernel, by decide +kernel⟩, by decide +kernel⟩, by decide +kernel⟩
theorem pi_X1_add : Cond.instanceMethod yX1_add ∈ xWs ∧ Cond.selects yX1_add.cls yX1_add yX1_add ∈ xWs := ⟨kp_instanceMethod_yX1_add, kp_selects_yX1_add⟩
abbrev mX3_readOpening : xY := (yX3_readOpening, cX3_readOpening, 4, (some .boolean))
theorem pm_X3_readOpening : xMth mX3_readOpening 2 := ⟨kp_code_yX3_readOpening, kp_init_RX3, ⟨⟨by decide +kernel, by decide +kernel⟩, by decide +kernel⟩, by decide +kernel⟩
theorem pi_X3_readOpening : Cond.instanceMethod yX3_readOpening ∈ xWs ∧ Cond.selects yX3_readOpening.cls yX3_readOpening yX3_readOpening ∈ xWs := ⟨kp_instanceMethod_yX3_readOpening, kp_selects_yX3_readOpening⟩
abbrev mX3_readSetting : xY := (yX3_readSetting, cX3_readSetting, 5, (some .boolean))
theorem pm_X3_readSetting : xMth mX3_readSetting 0 := ⟨kp_code_yX3_readSetting, kp_init_RX3, ⟨⟨by decide +kernel, by decide +kernel⟩, by decide +kernel⟩, by decide +kernel⟩
theorem pi_X3_readSetting : Cond.instanceMethod yX3_readSetting ∈ xWs ∧ Cond.selects yX3_readSetting.cls yX3_readSetting yX3_readSetting ∈ xWs := ⟨kp_instanceMethod_yX3_readSetting, kp_selects_yX3_readSetting⟩
abbrev mX3_takeTerm : xY := (yX3_takeTerm, cX3_takeTerm, 2, (some .int))
theorem pm_X3_takeTerm : xMth mX3_takeTerm 0 := ⟨kp_code_yX3_takeTerm, kp_init_RX3, ⟨⟨by decide +kernel, by decide +kernel⟩, by decide +kernel⟩, by decide +kernel⟩
theorem pi_X3_takeTerm : Cond.instanceMethod yX3_takeTerm ∈ xWs ∧ Cond.selects yX3_takeTerm.cls yX3_takeTerm yX3_takeTerm ∈ xWs := ⟨kp_instanceMethod_yX3_takeTerm, kp_selects_yX3_takeTerm⟩
abbrev mX3_isDigit : xY := (yX3_isDigit, cX3_isDigit, 1, (some .boolean))
theorem pm_X3_isDigit : xMth mX3_isDigit 1 := ⟨kp_code_yX3_isDigit, kp_init_RX3, ⟨⟨by decide +kernel, by decide +kernel⟩, by decide +kernel⟩, by decide +kernel⟩
abbrev mX3_takeNumber : xY := (yX3_takeNumber, cX3_takeNumber, 3, (some .int))
theorem pm_X3_takeNumber : xMth mX3_takeNumber 0 := ⟨kp_code_yX3_takeNumber, kp_init_RX3, ⟨⟨by decide +kernel, by decide +kernel⟩, by decide +kernel⟩, by decide +kernel⟩
theorem pi_X3_takeNumber : Cond.instanceMethod yX3_takeNumber ∈ xWs ∧ Cond.selects yX3_takeNumber.cls yX3_takeNumber yX3_takeNumber ∈ xWs := ⟨kp_instanceMethod_yX3_takeNumber, kp_selects_yX3_takeNumber⟩
abbrev mX3_takeOperator : xY := (yX3_takeOperator, cX3_takeOperator, 2, (some .int))
theorem pm_X3_takeOperator : xMth mX3_takeOperator 0 := ⟨kp_code_yX3_takeOperator, kp_init_RX3, ⟨⟨by decide +kernel, by decide +kernel⟩, by decide +kernel⟩, by decide +kernel⟩
theorem pi_X3_takeOperator : Cond.instanceMethod yX3_takeOperator ∈ xWs ∧ Cond.selects yX3_takeOperator.cls yX3_takeOperator yX3_takeOperator ∈ xWs := ⟨kp_instanceMethod_yX3_takeOperator, kp_selects_yX3_takeOperator⟩
abbrev mX1_setTerms : xY := (yX1_setTerms, cX1_setTerms, 5, none)
theorem pm_X1_setTerms : xMth mX1_setTerms 3 := ⟨kp_code_yX1_setTerms, kp_init_RX1, ⟨⟨by decide +kernel, by decide +kernel⟩, by decide +kernel⟩, by decide +kernel⟩
theorem pi_X1_setTerms : Cond.instanceMethod yX1_setTerms ∈ xWs ∧ Cond.selects yX1_setTerms.cls yX1_setTerms yX1_setTerms ∈ xWs := ⟨kp_instanceMethod_yX1_setTerms, kp_selects_yX1_setTerms⟩
abbrev mX1_holds : xY := (yX1_holds, cX1_holds, 2, (some .boolean))
theorem pm_X1_holds : xMth mX1_holds 1 := ⟨kp_code_yX1_holds, kp_init_RX1, ⟨⟨by decide +kernel, by decide +kernel⟩, by decide +kernel⟩, by decide +kernel⟩
theorem pi_X1_holds : Cond.instanceMethod yX1_holds ∈ xWs ∧ Cond.selects yX1_holds.cls yX1_holds yX1_holds ∈ xWs := ⟨kp_instanceMethod_yX1_holds, kp_selects_yX1_holds⟩
abbrev mX1_link : xY := (yX1_link, cX1_link, 2, none)
theorem pm_X1_link : xMth mX1_link 0 := ⟨kp_code_yX1_link, kp_init_RX1, ⟨⟨by decide +kernel, by decide +kernel⟩, by decide +kernel⟩, by decide +kernel⟩
theorem pi_X1_link : Cond.instanceMethod yX1_link ∈ xWs ∧ Cond.selects yX1_link.cls yX1_link yX1_link ∈ xWs := ⟨kp_instanceMethod_yX1_link, kp_selects_yX1_link⟩
abbrev mX1_followerOf : xY := (yX1_followerOf, cX1_followerOf, 5, (some .int))
theorem pm_X1_followerOf : xMth mX1_followerOf 1 := ⟨kp_code_yX1_followerOf, kp_init_RX1, ⟨⟨by decide +kernel, by decide +kernel⟩, by decide +kernel⟩, by decide +kernel⟩
theorem pi_X1_followerOf : Cond.instanceMethod yX1_followerOf ∈ xWs ∧ Cond.selects yX1_followerOf.cls yX1_followerOf yX1_followerOf ∈ xWs := ⟨kp_instanceMethod_yX1_followerOf, kp_selects_yX1_followerOf⟩
abbrev mX1_item : xY := (yX1_item, cX1_item, 3, (some .int))
theorem pm_X1_item : xMth mX1_item 2 := ⟨kp_code_yX1_item, kp_init_RX1, ⟨⟨by decide +kernel, by decide +kernel⟩, by decide +kernel⟩, by decide +kernel⟩
theorem pi_X1_item : Cond.instanceMethod yX1_item ∈ xWs ∧ Cond.selects yX1_item.cls yX1_item yX1_item ∈ xWs := ⟨kp_instanceMethod_yX1_item, kp_selects_yX1_item⟩
abbrev mX3_goOn : xY := (yX3_goOn, cX3_goOn, 2, none)
theorem pm_X3_goOn : xMth mX3_goOn 1 := ⟨kp_code_yX3_goOn, kp_init_RX3, ⟨⟨by decide +kernel, by decide +kernel⟩, by decide +kernel⟩, by decide +kernel⟩
theorem pi_X3_goOn : Cond.instanceMethod yX3_goOn ∈ xWs ∧ Cond.selects yX3_goOn.cls yX3_goOn yX3_goOn ∈ xWs := ⟨kp_instanceMethod_yX3_goOn, kp_selects_yX3_goOn⟩
abbrev mX1_endFirstPart : xY := (yX1_endFirstPart, cX1_endFirstPart, 2, none)
theorem pm_X1_endFirstPart : xMth mX1_endFirstPart 1 := ⟨kp_code_yX1_endFirstPart, kp_init_RX1, ⟨⟨by decide +kernel, by decide +kernel⟩, by decide +kernel⟩, by decide +kernel⟩
theorem pi_X1_endFirstPart : Cond.instanceMethod yX1_endFirstPart ∈ xWs ∧ Cond.selects yX1_endFirstPart.cls yX1_endFirstPart yX1_endFirstPart ∈ xWs := ⟨kp_instanceMethod_yX1_endFirstPart, kp_selects_yX1_endFirstPart⟩
abbrev mX1_close : xY := (yX1_close, cX1_close, 2, none)
theorem pm_X1_close : xMth mX1_close 1 := ⟨kp_code_yX1_close, kp_init_RX1, ⟨⟨by decide +kernel, by decide +kernel⟩, by decide +kernel⟩, by decide +kernel⟩
theorem pi_X1_close : Cond.instanceMethod yX1_close ∈ xWs ∧ Cond.selects yX1_close.cls yX1_close yX1_close ∈ xWs := ⟨kp_instanceMethod_yX1_close, kp_selects_yX1_close⟩
abbrev mX0_push : xY := (yX0_push, cX0_push, 3, none)
theorem pm_X0_push : xMth mX0_push 2 := ⟨kp_code_yX0_push, kp_init_RX0, ⟨⟨by decide +kernel, by decide +kernel⟩, by decide +kernel⟩, by decide +kernel⟩
theorem pi_X0_push : Cond.instanceMethod yX0_push ∈ xWs ∧ Cond.selects yX0_push.cls yX0_push yX0_push ∈ xWs := ⟨kp_instanceMethod_yX0_push, kp_selects_yX0_push⟩
abbrev mX0_dropOldest : xY := (yX0_dropOldest, cX0_dropOldest, 4, none)
theorem pm_X0_dropOldest : xMth mX0_dropOldest 0 := ⟨kp_code_yX0_dropOldest, kp_init_RX0, ⟨⟨by decide +kernel, by decide +kernel⟩, by decide +kernel⟩, by decide +kernel⟩
theorem pi_X0_dropOldest : Cond.instanceMethod yX0_dropOldest ∈ xWs ∧ Cond.selects yX0_dropOldest.cls yX0_dropOldest yX0_dropOldest ∈ xWs := ⟨kp_instanceMethod_yX0_dropOldest, kp_selects_yX0_dropOldest⟩
abbrev mX1_takeFrom : xY := (yX1_takeFrom, cX1_takeFrom, 2, none)
theorem pm_X1_takeFrom : xMth mX1_takeFrom 1 := ⟨kp_code_yX1_takeFrom, kp_init_RX1, ⟨⟨by decide +kernel, by decide +kernel⟩, by decide +kernel⟩, by decide +kernel⟩
theorem pi_X1_takeFrom : Cond.instanceMethod yX1_takeFrom ∈ xWs ∧ Cond.selects yX1_takeFrom.cls yX1_takeFrom yX1_takeFrom ∈ xWs := ⟨kp_instanceMethod_yX1_takeFrom, kp_selects_yX1_takeFrom⟩
abbrev mX7_listingOf : xY := (yX7_listingOf, cX7_listingOf, 2, (some (.object "PairedSteps$Listing")))
theorem pm_X7_listingOf : xMth mX7_listingOf 1 := ⟨kp_code_yX7_listingOf, kp_init_RX7, ⟨⟨by decide +kernel, by decide +kernel⟩, by decide +kernel⟩, by decide +kernel⟩
theorem pi_X7_listingOf : Cond.instanceMethod yX7_listingOf ∈ xWs ∧ Cond.selects yX7_listingOf.cls yX7_listingOf yX7_listingOf ∈ xWs := ⟨kp_instanceMethod_yX7_listingOf, kp_selects_yX7_listingOf⟩
abbrev mX8_read : xY := (yX8_read, cX8_read, 2, (some .int))
theorem pm_X8_read : xMth mX8_read 1 := ⟨kp_code_yX8_read, kp_init_RX8, ⟨⟨by decide +kernel, by decide +kernel⟩, by decide +kernel⟩, by decide +kernel⟩
theorem pi_X8_read : Cond.instanceMethod yX8_read ∈ xWs ∧ Cond.selects yX8_read.cls yX8_read yX8_read ∈ xWs := ⟨kp_instanceMethod_yX8_read, kp_selects_yX8_read⟩
abbrev mX8_isProgram : xY := (yX8_isProgram, cX8_isProgram, 1, (some .boolean))
theorem pm_X8_isProgram : xMth mX8_isProgram 1 := ⟨kp_code_yX8_isProgram, kp_init_RX8, ⟨⟨by decide +kernel, by decide +kernel⟩, by decide +kernel⟩, by decide +kernel⟩
abbrev mX8_readsAll : xY := (yX8_readsAll, cX8_readsAll, 5, (some .boolean))
theorem pm_X8_readsAll : xMth mX8_readsAll 0 := ⟨kp_code_yX8_readsAll, kp_init_RX8, ⟨⟨by decide +kernel, by decide +kernel⟩, by decide +kernel⟩, by decide +kernel⟩
theorem pi_X8_readsAll : Cond.instanceMethod yX8_readsAll ∈ xWs ∧ Cond.selects yX8_readsAll.cls yX8_readsAll yX8_readsAll ∈ xWs := ⟨kp_instanceMethod_yX8_readsAll, kp_selects_yX8_readsAll⟩
abbrev mX8_here : xY := (yX8_here, cX8_here, 1, (some .int))
theorem pm_X8_here : xMth mX8_here 0 := ⟨kp_code_yX8_here, kp_init_RX8, ⟨⟨by decide +kernel, by decide +kernel⟩, by decide +kernel⟩, by decide +kernel⟩
theorem pi_X8_here : Cond.instanceMethod yX8_here ∈ xWs ∧ Cond.selects yX8_here.cls yX8_here yX8_here ∈ xWs := ⟨kp_instanceMethod_yX8_here, kp_selects_yX8_here⟩
abbrev mX8_kindOf : xY := (yX8_kindOf, cX8_kindOf, 1, (some .int))
theorem pm_X8_kindOf : xMth mX8_kindOf 1 := ⟨kp_code_yX8_kindOf, kp_init_RX8, ⟨⟨by decide +kernel, by decide +kernel⟩, by decide +kernel⟩, by decide +kernel⟩
abbrev mX8_isLetter : xY := (yX8_isLetter, cX8_isLetter, 1, (some .boolean))
theorem pm_X8_isLetter : xMth mX8_isLetter 1 := ⟨kp_code_yX8_isLetter, kp_init_RX8, ⟨⟨by decide +kernel, by decide +kernel⟩, by decide +kernel⟩, by decide +kernel⟩
abbrev mX8_readsStatement : xY := (yX8_readsStatement, cX8_readsStatement, 5, (some .boolean))
theorem pm_X8_readsStatement : xMth mX8_readsStatement 2 := ⟨kp_code_yX8_readsStatement, kp_init_RX8, ⟨⟨by decide +kernel, by decide +kernel⟩, by decide +kernel⟩, by decide +kernel⟩
theorem pi_X8_readsStatement : Cond.instanceMethod yX8_readsStatement ∈ xWs ∧ Cond.selects yX8_readsStatement.cls yX8_readsStatement yX8_readsStatement ∈ xWs := ⟨kp_instanceMethod_yX8_readsStatement, kp_selects_yX8_readsStatement⟩
abbrev mX8_put : xY := (yX8_put, cX8_put, 4, none)
theorem pm_X8_put : xMth mX8_put 3 := ⟨kp_code_yX8_put, kp_init_RX8, ⟨⟨by decide +kernel, by decide +kernel⟩, by decide +kernel⟩, by decide +kernel⟩
theorem pi_X8_put : Cond.instanceMethod yX8_put ∈ xWs ∧ Cond.selects yX8_put.cls yX8_put yX8_put ∈ xWs := ⟨kp_instanceMethod_yX8_put, kp_selects_yX8_put⟩
abbrev mX8_readsSetting : xY := (yX8_readsSetting, cX8_readsSetting, 3, (some .boolean))
theorem pm_X8_readsSetting : xMth mX8_readsSetting 1 := ⟨kp_code_yX8_readsSetting, kp_init_RX8, ⟨⟨by decide +kernel, by decide +kernel⟩, by decide +kernel⟩, by decide +kernel⟩
theorem pi_X8_readsSetting : Cond.instanceMethod yX8_readsSetting ∈ xWs ∧ Cond.selects yX8_readsSetting.cls yX8_readsSetting yX8_readsSetting ∈ xWs := ⟨kp_instanceMethod_yX8_readsSetting, kp_selects_yX8_readsSetting⟩
abbrev mX8_readsCell : xY := (yX8_readsCell, cX8_readsCell, 3, (some .boolean))
theorem pm_X8_readsCell : xMth mX8_readsCell 1 := ⟨kp_code_yX8_readsCell, kp_init_RX8, ⟨⟨by decide +kernel, by decide +kernel⟩, by decide +kernel⟩, by decide +kernel⟩
theorem pi_X8_readsCell : Cond.instanceMethod yX8_readsCell ∈ xWs ∧ Cond.selects yX8_readsCell.cls yX8_readsCell yX8_readsCell ∈ xWs := ⟨kp_instanceMethod_yX8_readsCell, kp_selects_yX8_readsCell⟩
abbrev mX8_passes : xY := (yX8_passes, cX8_passes, 3, (some .boolean))
theorem pm_X8_passes : xMth mX8_passes 1 := ⟨kp_code_yX8_passes, kp_init_RX8, ⟨⟨by decide +kernel, by decide +kernel⟩, by decide +kernel⟩, by decide +kernel⟩
theorem pi_X8_passes : Cond.instanceMethod yX8_passes ∈ xWs ∧ Cond.selects yX8_passes.cls yX8_passes yX8_passes ∈ xWs := ⟨kp_instanceMethod_yX8_passes, kp_selects_yX8_passes⟩
abbrev mX8_readsTerm : xY := (yX8_readsTerm, cX8_readsTerm, 7, (some .boolean))
theorem pm_X8_readsTerm : xMth mX8_readsTerm 2 := ⟨kp_code_yX8_readsTerm, kp_init_RX8, ⟨⟨by decide +kernel, by decide +kernel⟩, by decide +kernel⟩, by decide +kernel⟩
theorem pi_X8_readsTerm : Cond.instanceMethod yX8_readsTerm ∈ xWs ∧ Cond.selects yX8_readsTerm.cls yX8_readsTerm yX8_readsTerm ∈ xWs := ⟨kp_instanceMethod_yX8_readsTerm, kp_selects_yX8_readsTerm⟩
abbrev mX8_saves : xY := (yX8_saves, cX8_saves, 2, none)
theorem pm_X8_saves : xMth mX8_saves 0 := ⟨kp_code_yX8_saves, kp_init_RX8, ⟨⟨by decide +kernel, by decide +kernel⟩, by decide +kernel⟩, by decide +kernel⟩
theorem pi_X8_saves : Cond.instanceMethod yX8_saves ∈ xWs ∧ Cond.selects yX8_saves.cls yX8_saves yX8_saves ∈ xWs := ⟨kp_instanceMethod_yX8_saves, kp_selects_yX8_saves⟩
abbrev mX8_lays : xY := (yX8_lays, cX8_lays, 3, none)
theorem pm_X8_lays : xMth mX8_lays 1 := ⟨kp_code_yX8_lays, kp_init_RX8, ⟨⟨by decide +kernel, by decide +kernel⟩, by decide +kernel⟩, by decide +kernel⟩
theorem pi_X8_lays : Cond.instanceMethod yX8_lays ∈ xWs ∧ Cond.selects yX8_lays.cls yX8_lays yX8_lays ∈ xWs := ⟨kp_instanceMethod_yX8_lays, kp_selects_yX8_lays⟩
abbrev mX7_copy : xY := (yX7_copy, cX7_copy, 1, (some .int))
theorem pm_X7_copy : xMth mX7_copy 0 := ⟨kp_code_yX7_copy, kp_init_RX7, ⟨⟨by decide +kernel, by decide +kernel⟩, by decide +kernel⟩, by decide +kernel⟩
theorem pi_X7_copy : Cond.instanceMethod yX7_copy ∈ xWs ∧ Cond.selects yX7_copy.cls yX7_copy yX7_copy ∈ xWs := ⟨kp_instanceMethod_yX7_copy, kp_selects_yX7_copy⟩
abbrev mX8_copy : xY := (yX8_copy, cX8_copy, 1, (some .int))
theorem pm_X8_copy : xMth mX8_copy 0 := ⟨kp_code_yX8_copy, kp_init_RX8, ⟨⟨by decide +kernel, by decide +kernel⟩, by decide +kernel⟩, by decide +kernel⟩
theorem pi_X8_copy : Cond.instanceMethod yX8_copy ∈ xWs ∧ Cond.selects yX8_copy.cls yX8_copy yX8_copy ∈ xWs := ⟨kp_instanceMethod_yX8_copy, kp_selects_yX8_copy⟩
abbrev mX8_takes : xY := (yX8_takes, cX8_takes, 3, none)
theorem pm_X8_takes : xMth mX8_takes 1 := ⟨kp_code_yX8_takes, kp_init_RX8, ⟨⟨by decide +kernel, by decide +kernel⟩, by decide +kernel⟩, by decide +kernel⟩
theorem pi_X8_takes : Cond.instanceMethod yX8_takes ∈ xWs ∧ Cond.selects yX8_takes.cls yX8_takes yX8_takes ∈ xWs := ⟨kp_instanceMethod_yX8_takes, kp_selects_yX8_takes⟩
abbrev mX7_exchange : xY := (yX7_exchange, cX7_exchange, 2, (some .int))
theorem pm_X7_exchange : xMth mX7_exchange 0 := ⟨kp_code_yX7_exchange, kp_init_RX7, ⟨⟨by decide +kernel, by decide +kernel⟩, by decide +kernel⟩, by decide +kernel⟩
theorem pi_X7_exchange : Cond.instanceMethod yX7_exchange ∈ xWs ∧ Cond.selects yX7_exchange.cls yX7_exchange yX7_exchange ∈ xWs := ⟨kp_instanceMethod_yX7_exchange, kp_selects_yX7_exchange⟩
abbrev mX8_exchange : xY := (yX8_exchange, cX8_exchange, 2, (some .int))
theorem pm_X8_exchange : xMth mX8_exchange 0 := ⟨kp_code_yX8_exchange, kp_init_RX8, ⟨⟨by decide +kernel, by decide +kernel⟩, by decide +kernel⟩, by decide +kernel⟩
theorem pi_X8_exchange : Cond.instanceMethod yX8_exchange ∈ xWs ∧ Cond.selects yX8_exchange.cls yX8_exchange yX8_exchange ∈ xWs := ⟨kp_instanceMethod_yX8_exchange, kp_selects_yX8_exchange⟩
abbrev mX7_cut : xY := (yX7_cut, cX7_cut, 4, (some .int))
theorem pm_X7_cut : xMth mX7_cut 2 := ⟨kp_code_yX7_cut, kp_init_RX7, ⟨⟨by decide +kernel, by decide +kernel⟩, by decide +kernel⟩, by decide +kernel⟩
theorem pi_X7_cut : Cond.instanceMethod yX7_cut ∈ xWs ∧ Cond.selects yX7_cut.cls yX7_cut yX7_cut ∈ xWs := ⟨kp_instanceMethod_yX7_cut, kp_selects_yX7_cut⟩
abbrev mX1_remove : xY := (yX1_remove, cX1_remove, 4, none)
theorem pm_X1_remove : xMth mX1_remove 1 := ⟨kp_code_yX1_remove, kp_init_RX1, ⟨⟨by decide +kernel, by decide +kernel⟩, by decide +kernel⟩, by decide +kernel⟩
theorem pi_X1_remove : Cond.instanceMethod yX1_remove ∈ xWs ∧ Cond.selects yX1_remove.cls yX1_remove yX1_remove ∈ xWs := ⟨kp_instanceMethod_yX1_remove, kp_selects_yX1_remove⟩
abbrev mX1_moveDown : xY := (yX1_moveDown, cX1_moveDown, 3, none)
theorem pm_X1_moveDown : xMth mX1_moveDown 2 := ⟨kp_code_yX1_moveDown, kp_init_RX1, ⟨⟨by decide +kernel, by decide +kernel⟩, by decide +kernel⟩, by decide +kernel⟩
theorem pi_X1_moveDown : Cond.instanceMethod yX1_moveDown ∈ xWs ∧ Cond.selects yX1_moveDown.cls yX1_moveDown yX1_moveDown ∈ xWs := ⟨kp_instanceMethod_yX1_moveDown, kp_selects_yX1_moveDown⟩
abbrev mX1_placeWithout : xY := (yX1_placeWithout, cX1_placeWithout, 3, (some .int))
theorem pm_X1_placeWithout : xMth mX1_placeWithout 3 := ⟨kp_code_yX1_placeWithout, kp_init_RX1, ⟨⟨by decide +kernel, by decide +kernel⟩, by decide +kernel⟩, by decide +kernel⟩
abbrev mX8_cut : xY := (yX8_cut, cX8_cut, 3, (some .int))
theorem pm_X8_cut : xMth mX8_cut 2 := ⟨kp_code_yX8_cut, kp_init_RX8, ⟨⟨by decide +kernel, by decide +kernel⟩, by decide +kernel⟩, by decide +kernel⟩
theorem pi_X8_cut : Cond.instanceMethod yX8_cut ∈ xWs ∧ Cond.selects yX8_cut.cls yX8_cut yX8_cut ∈ xWs := ⟨kp_instanceMethod_yX8_cut, kp_selects_yX8_cut⟩
abbrev mX8_isStatement : xY := (yX8_isStatement, cX8_isStatement, 3, (some .boolean))
theorem pm_X8_isStatement : xMth mX8_isStatement 2 := ⟨kp_code_yX8_isStatement, kp_init_RX8, ⟨⟨by decide +kernel, by decide +kernel⟩, by decide +kernel⟩, by decide +kernel⟩
theorem pi_X8_isStatement : Cond.instanceMethod yX8_isStatement ∈ xWs ∧ Cond.selects yX8_isStatement.cls yX8_isStatement yX8_isStatement ∈ xWs := ⟨kp_instanceMethod_yX8_isStatement, kp_selects_yX8_isStatement⟩
abbrev mX8_cuts : xY := (yX8_cuts, cX8_cuts, 6, none)
theorem pm_X8_cuts : xMth mX8_cuts 1 := ⟨kp_code_yX8_cuts, kp_init_RX8, ⟨⟨by decide +kernel, by decide +kernel⟩, by decide +kernel⟩, by decide +kernel⟩
theorem pi_X8_cuts : Cond.instanceMethod yX8_cuts ∈ xWs ∧ Cond.selects yX8_cuts.cls yX8_cuts yX8_cuts ∈ xWs := ⟨kp_instanceMethod_yX8_cuts, kp_selects_yX8_cuts⟩
abbrev mX8_sizeOf : xY := (yX8_sizeOf, cX8_sizeOf, 2, (some .int))
theorem pm_X8_sizeOf : xMth mX8_sizeOf 1 := ⟨kp_code_yX8_sizeOf, kp_init_RX8, ⟨⟨by decide +kernel, by decide +kernel⟩, by decide +kernel⟩, by decide +kernel⟩
theorem pi_X8_sizeOf : Cond.instanceMethod yX8_sizeOf ∈ xWs ∧ Cond.selects yX8_sizeOf.cls yX8_sizeOf yX8_sizeOf ∈ xWs := ⟨kp_instanceMethod_yX8_sizeOf, kp_selects_yX8_sizeOf⟩
abbrev mX8_of : xY := (yX8_of, cX8_of, 3, (some .int))
theorem pm_X8_of : xMth mX8_of 2 := ⟨kp_code_yX8_of, kp_init_RX8, ⟨⟨by decide +kernel, by decide +kernel⟩, by decide +kernel⟩, by decide +kernel⟩
theorem pi_X8_of : Cond.instanceMethod yX8_of ∈ xWs ∧ Cond.selects yX8_of.cls yX8_of yX8_of ∈ xWs := ⟨kp_instanceMethod_yX8_of, kp_selects_yX8_of⟩
abbrev mX7_undo : xY := (yX7_undo, cX7_undo, 1, (some .int))
theorem pm_X7_undo : xMth mX7_undo 0 := ⟨kp_code_yX7_undo, kp_init_RX7, ⟨⟨by decide +kernel, by decide +kernel⟩, by decide +kernel⟩, by decide +kernel⟩
theorem pi_X7_undo : Cond.instanceMethod yX7_undo ∈ xWs ∧ Cond.selects yX7_undo.cls yX7_undo yX7_undo ∈ xWs := ⟨kp_instanceMethod_yX7_undo, kp_selects_yX7_undo⟩
abbrev mX0_pop : xY := (yX0_pop, cX0_pop, 4, none)
theorem pm_X0_pop : xMth mX0_pop 2 := ⟨kp_code_yX0_pop, kp_init_RX0, ⟨⟨by decide +kernel, by decide +kernel⟩, by decide +kernel⟩, by decide +kernel⟩
theorem pi_X0_pop : Cond.instanceMethod yX0_pop ∈ xWs ∧ Cond.selects yX0_pop.cls yX0_pop yX0_pop ∈ xWs := ⟨kp_instanceMethod_yX0_pop, kp_selects_yX0_pop⟩
abbrev mX8_undo : xY := (yX8_undo, cX8_undo, 2, (some .int))
theorem pm_X8_undo : xMth mX8_undo 0 := ⟨kp_code_yX8_undo, kp_init_RX8, ⟨⟨by decide +kernel, by decide +kernel⟩, by decide +kernel⟩, by decide +kernel⟩
theorem pi_X8_undo : Cond.instanceMethod yX8_undo ∈ xWs ∧ Cond.selects yX8_undo.cls yX8_undo yX8_undo ∈ xWs := ⟨kp_instanceMethod_yX8_undo, kp_selects_yX8_undo⟩
abbrev mX7_count : xY := (yX7_count, cX7_count, 2, (some .int))
theorem pm_X7_count : xMth mX7_count 1 := ⟨kp_code_yX7_count, kp_init_RX7, ⟨⟨by decide +kernel, by decide +kernel⟩, by decide +kernel⟩, by decide +kernel⟩
theorem pi_X7_count : Cond.instanceMethod yX7_count ∈ xWs ∧ Cond.selects yX7_count.cls yX7_count yX7_count ∈ xWs := ⟨kp_instanceMethod_yX7_count, kp_selects_yX7_count⟩
abbrev mX8_count : xY := (yX8_count, cX8_count, 2, (some .int))
theorem pm_X8_count : xMth mX8_count 1 := ⟨kp_code_yX8_count, kp_init_RX8, ⟨⟨by decide +kernel, by decide +kernel⟩, by decide +kernel⟩, by decide +kernel⟩
theorem pi_X8_count : Cond.instanceMethod yX8_count ∈ xWs ∧ Cond.selects yX8_count.cls yX8_count yX8_count ∈ xWs := ⟨kp_instanceMethod_yX8_count, kp_selects_yX8_count⟩
abbrev mX7_program : xY := (yX7_program, cX7_program, 4, (some .int))
theorem pm_X7_program : xMth mX7_program 2 := ⟨kp_code_yX7_program, kp_init_RX7, ⟨⟨by decide +kernel, by decide +kernel⟩, by decide +kernel⟩, by decide +kernel⟩
theorem pi_X7_program : Cond.instanceMethod yX7_program ∈ xWs ∧ Cond.selects yX7_program.cls yX7_program yX7_program ∈ xWs := ⟨kp_instanceMethod_yX7_program, kp_selects_yX7_program⟩
abbrev mX1_tally : xY := (yX1_tally, cX1_tally, 4, (some .int))
theorem pm_X1_tally : xMth mX1_tally 1 := ⟨kp_code_yX1_tally, kp_init_RX1, ⟨⟨by decide +kernel, by decide +kernel⟩, by decide +kernel⟩, by decide +kernel⟩
theorem pi_X1_tally : Cond.instanceMethod yX1_tally ∈ xWs ∧ Cond.selects yX1_tally.cls yX1_tally yX1_tally ∈ xWs := ⟨kp_instanceMethod_yX1_tally, kp_selects_yX1_tally⟩
abbrev mX1_nesting : xY := (yX1_nesting, cX1_nesting, 3, (some .int))
theorem pm_X1_nesting : xMth mX1_nesting 0 := ⟨kp_code_yX1_nesting, kp_init_RX1, ⟨⟨by decide +kernel, by decide +kernel⟩, by decide +kernel⟩, by decide +kernel⟩
theorem pi_X1_nesting : Cond.instanceMethod yX1_nesting ∈ xWs ∧ Cond.selects yX1_nesting.cls yX1_nesting yX1_nesting ∈ xWs := ⟨kp_instanceMethod_yX1_nesting, kp_selects_yX1_nesting⟩
abbrev mX1_depthOf : xY := (yX1_depthOf, cX1_depthOf, 5, (some .int))
theorem pm_X1_depthOf : xMth mX1_depthOf 1 := ⟨kp_code_yX1_depthOf, kp_init_RX1, ⟨⟨by decide +kernel, by decide +kernel⟩, by decide +kernel⟩, by decide +kernel⟩
theorem pi_X1_depthOf : Cond.instanceMethod yX1_depthOf ∈ xWs ∧ Cond.selects yX1_depthOf.cls yX1_depthOf yX1_depthOf ∈ xWs := ⟨kp_instanceMethod_yX1_depthOf, kp_selects_yX1_depthOf⟩
abbrev mX1_settableCells : xY := (yX1_settableCells, cX1_settableCells, 3, (some .int))
theorem pm_X1_settableCells : xMth mX1_settableCells 0 := ⟨kp_code_yX1_settableCells, kp_init_RX1, ⟨⟨by decide +kernel, by decide +kernel⟩, by decide +kernel⟩, by decide +kernel⟩
theorem pi_X1_settableCells : Cond.instanceMethod yX1_settableCells ∈ xWs ∧ Cond.selects yX1_settableCells.cls yX1_settableCells yX1_settableCells ∈ xWs := ⟨kp_instanceMethod_yX1_settableCells, kp_selects_yX1_settableCells⟩
abbrev mX8_program : xY := (yX8_program, cX8_program, 3, (some .int))
theorem pm_X8_program : xMth mX8_program 2 := ⟨kp_code_yX8_program, kp_init_RX8, ⟨⟨by decide +kernel, by decide +kernel⟩, by decide +kernel⟩, by decide +kernel⟩
theorem pi_X8_program : Cond.instanceMethod yX8_program ∈ xWs ∧ Cond.selects yX8_program.cls yX8_program yX8_program ∈ xWs := ⟨kp_instanceMethod_yX8_program, kp_selects_yX8_program⟩
abbrev mX8_depthAll : xY := (yX8_depthAll, cX8_depthAll, 5, (some .int))
theorem pm_X8_depthAll : xMth mX8_depthAll 0 := ⟨kp_code_yX8_depthAll, kp_init_RX8, ⟨⟨by decide +kernel, by decide +kernel⟩, by decide +kernel⟩, by decide +kernel⟩
theorem pi_X8_depthAll : Cond.instanceMethod yX8_depthAll ∈ xWs ∧ Cond.selects yX8_depthAll.cls yX8_depthAll yX8_depthAll ∈ xWs := ⟨kp_instanceMethod_yX8_depthAll, kp_selects_yX8_depthAll⟩
abbrev mX8_canSet : xY := (yX8_canSet, cX8_canSet, 3, (some .int))
theorem pm_X8_canSet : xMth mX8_canSet 0 := ⟨kp_code_yX8_canSet, kp_init_RX8, ⟨⟨by decide +kernel, by decide +kernel⟩, by decide +kernel⟩, by decide +kernel⟩
theorem pi_X8_canSet : Cond.instanceMethod yX8_canSet ∈ xWs ∧ Cond.selects yX8_canSet.cls yX8_canSet yX8_canSet ∈ xWs := ⟨kp_instanceMethod_yX8_canSet, kp_selects_yX8_canSet⟩
abbrev mX8_ofKind : xY := (yX8_ofKind, cX8_ofKind, 4, (some .int))
theorem pm_X8_ofKind : xMth mX8_ofKind 1 := ⟨kp_code_yX8_ofKind, kp_init_RX8, ⟨⟨by decide +kernel, by decide +kernel⟩, by decide +kernel⟩, by decide +kernel⟩
theorem pi_X8_ofKind : Cond.instanceMethod yX8_ofKind ∈ xWs ∧ Cond.selects yX8_ofKind.cls yX8_ofKind yX8_ofKind ∈ xWs := ⟨kp_instanceMethod_yX8_ofKind, kp_selects_yX8_ofKind⟩
abbrev mX7_run : xY := (yX7_run, cX7_run, 6, (some .int))
theorem pm_X7_run : xMth mX7_run 4 := ⟨kp_code_yX7_run, kp_init_RX7, ⟨⟨by decide +kernel, by decide +kernel⟩, by decide +kernel⟩, by decide +kernel⟩
theorem pi_X7_run : Cond.instanceMethod yX7_run ∈ xWs ∧ Cond.selects yX7_run.cls yX7_run yX7_run ∈ xWs := ⟨kp_instanceMethod_yX7_run, kp_selects_yX7_run⟩
abbrev mX7_isInput : xY := (yX7_isInput, cX7_isInput, 2, (some .boolean))
theorem pm_X7_isInput : xMth mX7_isInput 2 := ⟨kp_code_yX7_isInput, kp_init_RX7, ⟨⟨by decide +kernel, by decide +kernel⟩, by decide +kernel⟩, by decide +kernel⟩
abbrev mX7_traceOf : xY := (yX7_traceOf, cX7_traceOf, 4, (some (.object "PairedSteps$Trace")))
theorem pm_X7_traceOf : xMth mX7_traceOf 3 := ⟨kp_code_yX7_traceOf, kp_init_RX7, ⟨⟨by decide +kernel, by decide +kernel⟩, by decide +kernel⟩, by decide +kernel⟩
theorem pi_X7_traceOf : Cond.instanceMethod yX7_traceOf ∈ xWs ∧ Cond.selects yX7_traceOf.cls yX7_traceOf yX7_traceOf ∈ xWs := ⟨kp_instanceMethod_yX7_traceOf, kp_selects_yX7_traceOf⟩
abbrev mX6_follow : xY := (yX6_follow, cX6_follow, 6, none)
theorem pm_X6_follow : xMth mX6_follow 3 := ⟨kp_code_yX6_follow, kp_init_RX6, ⟨⟨by decide +kernel, by decide +kernel⟩, by decide +kernel⟩, by decide +kernel⟩
theorem pi_X6_follow : Cond.instanceMethod yX6_follow ∈ xWs ∧ Cond.selects yX6_follow.cls yX6_follow yX6_follow ∈ xWs := ⟨kp_instanceMethod_yX6_follow, kp_selects_yX6_follow⟩
abbrev mX6_begin : xY := (yX6_begin, cX6_begin, 4, none)
theorem pm_X6_begin : xMth mX6_begin 2 := ⟨kp_code_yX6_begin, kp_init_RX6, ⟨⟨by decide +kernel, by decide +kernel⟩, by decide +kernel⟩, by decide +kernel⟩
theorem pi_X6_begin : Cond.instanceMethod yX6_begin ∈ xWs ∧ Cond.selects yX6_begin.cls yX6_begin yX6_begin ∈ xWs := ⟨kp_instanceMethod_yX6_begin, kp_selects_yX6_begin⟩
abbrev mX2_begin : xY := (yX2_begin, cX2_begin, 1, none)
theorem pm_X2_begin : xMth mX2_begin 0 := ⟨kp_code_yX2_begin, kp_init_RX2, ⟨⟨by decide +kernel, by decide +kernel⟩, by decide +kernel⟩, by decide +kernel⟩
theorem pi_X2_begin : Cond.instanceMethod yX2_begin ∈ xWs ∧ Cond.selects yX2_begin.cls yX2_begin yX2_begin ∈ xWs := ⟨kp_instanceMethod_yX2_begin, kp_selects_yX2_begin⟩
abbrev mX6_stepFrom : xY := (yX6_stepFrom, cX6_stepFrom, 3, (some .int))
theorem pm_X6_stepFrom : xMth mX6_stepFrom 2 := ⟨kp_code_yX6_stepFrom, kp_init_RX6, ⟨⟨by decide +kernel, by decide +kernel⟩, by decide +kernel⟩, by decide +kernel⟩
theorem pi_X6_stepFrom : Cond.instanceMethod yX6_stepFrom ∈ xWs ∧ Cond.selects yX6_stepFrom.cls yX6_stepFrom yX6_stepFrom ∈ xWs := ⟨kp_instanceMethod_yX6_stepFrom, kp_selects_yX6_stepFrom⟩
abbrev mX1_kindOf : xY := (yX1_kindOf, cX1_kindOf, 2, (some .int))
theorem pm_X1_kindOf : xMth mX1_kindOf 1 := ⟨kp_code_yX1_kindOf, kp_init_RX1, ⟨⟨by decide +kernel, by decide +kernel⟩, by decide +kernel⟩, by decide +kernel⟩
theorem pi_X1_kindOf : Cond.instanceMethod yX1_kindOf ∈ xWs ∧ Cond.selects yX1_kindOf.cls yX1_kindOf yX1_kindOf ∈ xWs := ⟨kp_instanceMethod_yX1_kindOf, kp_selects_yX1_kindOf⟩
abbrev mX1_targetOf : xY := (yX1_targetOf, cX1_targetOf, 2, (some .int))
theorem pm_X1_targetOf : xMth mX1_targetOf 1 := ⟨kp_code_yX1_targetOf, kp_init_RX1, ⟨⟨by decide +kernel, by decide +kernel⟩, by decide +kernel⟩, by decide +kernel⟩
theorem pi_X1_targetOf : Cond.instanceMethod yX1_targetOf ∈ xWs ∧ Cond.selects yX1_targetOf.cls yX1_targetOf yX1_targetOf ∈ xWs := ⟨kp_instanceMethod_yX1_targetOf, kp_selects_yX1_targetOf⟩
abbrev mX6_resultOf : xY := (yX6_resultOf, cX6_resultOf, 5, (some .int))
theorem pm_X6_resultOf : xMth mX6_resultOf 2 := ⟨kp_code_yX6_resultOf, kp_init_RX6, ⟨⟨by decide +kernel, by decide +kernel⟩, by decide +kernel⟩, by decide +kernel⟩
theorem pi_X6_resultOf : Cond.instanceMethod yX6_resultOf ∈ xWs ∧ Cond.selects yX6_resultOf.cls yX6_resultOf yX6_resultOf ∈ xWs := ⟨kp_instanceMethod_yX6_resultOf, kp_selects_yX6_resultOf⟩
abbrev mX1_leftOf : xY := (yX1_leftOf, cX1_leftOf, 2, (some .int))
theorem pm_X1_leftOf : xMth mX1_leftOf 1 := ⟨kp_code_yX1_leftOf, kp_init_RX1, ⟨⟨by decide +kernel, by decide +kernel⟩, by decide +kernel⟩, by decide +kernel⟩
theorem pi_X1_leftOf : Cond.instanceMethod yX1_leftOf ∈ xWs ∧ Cond.selects yX1_leftOf.cls yX1_leftOf yX1_leftOf ∈ xWs := ⟨kp_instanceMethod_yX1_leftOf, kp_selects_yX1_leftOf⟩
abbrev mX6_termValue : xY := (yX6_termValue, cX6_termValue, 2, (some .int))
theorem pm_X6_termValue : xMth mX6_termValue 1 := ⟨kp_code_yX6_termValue, kp_init_RX6, ⟨⟨by decide +kernel, by decide +kernel⟩, by decide +kernel⟩, by decide +kernel⟩
theorem pi_X6_termValue : Cond.instanceMethod yX6_termValue ∈ xWs ∧ Cond.selects yX6_termValue.cls yX6_termValue yX6_termValue ∈ xWs := ⟨kp_instanceMethod_yX6_termValue, kp_selects_yX6_termValue⟩
abbrev mX6_valueOf : xY := (yX6_valueOf, cX6_valueOf, 2, (some .int))
theorem pm_X6_valueOf : xMth mX6_valueOf 1 := ⟨kp_code_yX6_valueOf, kp_init_RX6, ⟨⟨by decide +kernel, by decide +kernel⟩, by decide +kernel⟩, by decide +kernel⟩
theorem pi_X6_valueOf : Cond.instanceMethod yX6_valueOf ∈ xWs ∧ Cond.selects yX6_valueOf.cls yX6_valueOf yX6_valueOf ∈ xWs := ⟨kp_instanceMethod_yX6_valueOf, kp_selects_yX6_valueOf⟩
abbrev mX1_rightOf : xY := (yX1_rightOf, cX1_rightOf, 2, (some .int))
theorem pm_X1_rightOf : xMth mX1_rightOf 1 := ⟨kp_code_yX1_rightOf, kp_init_RX1, ⟨⟨by decide +kernel, by decide +kernel⟩, by decide +kernel⟩, by decide +kernel⟩
theorem pi_X1_rightOf : Cond.instanceMethod yX1_rightOf ∈ xWs ∧ Cond.selects yX1_rightOf.cls yX1_rightOf yX1_rightOf ∈ xWs := ⟨kp_instanceMethod_yX1_rightOf, kp_selects_yX1_rightOf⟩
abbrev mX1_operatorOf : xY := (yX1_operatorOf, cX1_operatorOf, 2, (some .int))
theorem pm_X1_operatorOf : xMth mX1_operatorOf 1 := ⟨kp_code_yX1_operatorOf, kp_init_RX1, ⟨⟨by decide +kernel, by decide +kernel⟩, by decide +kernel⟩, by decide +kernel⟩
theorem pi_X1_operatorOf : Cond.instanceMethod yX1_operatorOf ∈ xWs ∧ Cond.selects yX1_operatorOf.cls yX1_operatorOf yX1_operatorOf ∈ xWs := ⟨kp_instanceMethod_yX1_operatorOf, kp_selects_yX1_operatorOf⟩
abbrev mX6_nearestValue : xY := (yX6_nearestValue, cX6_nearestValue, 1, (some .int))
theorem pm_X6_nearestValue : xMth mX6_nearestValue 1 := ⟨kp_code_yX6_nearestValue, kp_init_RX6, ⟨⟨by decide +kernel, by decide +kernel⟩, by decide +kernel⟩, by decide +kernel⟩
abbrev mX6_setCell : xY := (yX6_setCell, cX6_setCell, 3, none)
theorem pm_X6_setCell : xMth mX6_setCell 2 := ⟨kp_code_yX6_setCell, kp_init_RX6, ⟨⟨by decide +kernel, by decide +kernel⟩, by decide +kernel⟩, by decide +kernel⟩
theorem pi_X6_setCell : Cond.instanceMethod yX6_setCell ∈ xWs ∧ Cond.selects yX6_setCell.cls yX6_setCell yX6_setCell ∈ xWs := ⟨kp_instanceMethod_yX6_setCell, kp_selects_yX6_setCell⟩
abbrev mX1_followerAt : xY := (yX1_followerAt, cX1_followerAt, 2, (some .int))
theorem pm_X1_followerAt : xMth mX1_followerAt 1 := ⟨kp_code_yX1_followerAt, kp_init_RX1, ⟨⟨by decide +kernel, by decide +kernel⟩, by decide +kernel⟩, by decide +kernel⟩
theorem pi_X1_followerAt : Cond.instanceMethod yX1_followerAt ∈ xWs ∧ Cond.selects yX1_followerAt.cls yX1_followerAt yX1_followerAt ∈ xWs := ⟨kp_instanceMethod_yX1_followerAt, kp_selects_yX1_followerAt⟩
abbrev mX2_add : xY := (yX2_add, cX2_add, 2, none)
theorem pm_X2_add : xMth mX2_add 1 := ⟨kp_code_yX2_add, kp_init_RX2, ⟨⟨by decide +kernel, by decide +kernel⟩, by decide +kernel⟩, by decide +kernel⟩
theorem pi_X2_add : Cond.instanceMethod yX2_add ∈ xWs ∧ Cond.selects yX2_add.cls yX2_add yX2_add ∈ xWs := ⟨kp_instanceMethod_yX2_add, kp_selects_yX2_add⟩
abbrev mX6_keepMark : xY := (yX6_keepMark, cX6_keepMark, 1, none)
theorem pm_X6_keepMark : xMth mX6_keepMark 0 := ⟨kp_code_yX6_keepMark, kp_init_RX6, ⟨⟨by decide +kernel, by decide +kernel⟩, by decide +kernel⟩, by decide +kernel⟩
theorem pi_X6_keepMark : Cond.instanceMethod yX6_keepMark ∈ xWs ∧ Cond.selects yX6_keepMark.cls yX6_keepMark yX6_keepMark ∈ xWs := ⟨kp_instanceMethod_yX6_keepMark, kp_selects_yX6_keepMark⟩
abbrev mX6_look : xY := (yX6_look, cX6_look, 4, (some .int))
theorem pm_X6_look : xMth mX6_look 2 := ⟨kp_code_yX6_look, kp_init_RX6, ⟨⟨by decide +kernel, by decide +kernel⟩, by decide +kernel⟩, by decide +kernel⟩
theorem pi_X6_look : Cond.instanceMethod yX6_look ∈ xWs ∧ Cond.selects yX6_look.cls yX6_look yX6_look ∈ xWs := ⟨kp_instanceMethod_yX6_look, kp_selects_yX6_look⟩
abbrev mX1_entered : xY := (yX1_entered, cX1_entered, 2, (some .int))
theorem pm_X1_entered : xMth mX1_entered 1 := ⟨kp_code_yX1_entered, kp_init_RX1, ⟨⟨by decide +kernel, by decide +kernel⟩, by decide +kernel⟩, by decide +kernel⟩
theorem pi_X1_entered : Cond.instanceMethod yX1_entered ∈ xWs ∧ Cond.selects yX1_entered.cls yX1_entered yX1_entered ∈ xWs := ⟨kp_instanceMethod_yX1_entered, kp_selects_yX1_entered⟩
abbrev mX1_passed : xY := (yX1_passed, cX1_passed, 3, (some .int))
theorem pm_X1_passed : xMth mX1_passed 1 := ⟨kp_code_yX1_passed, kp_init_RX1, ⟨⟨by decide +kernel, by decide +kernel⟩, by decide +kernel⟩, by decide +kernel⟩
theorem pi_X1_passed : Cond.instanceMethod yX1_passed ∈ xWs ∧ Cond.selects yX1_passed.cls yX1_passed yX1_passed ∈ xWs := ⟨kp_instanceMethod_yX1_passed, kp_selects_yX1_passed⟩
abbrev mX8_run : xY := (yX8_run, cX8_run, 5, (some .int))
theorem pm_X8_run : xMth mX8_run 4 := ⟨kp_code_yX8_run, kp_init_RX8, ⟨⟨by decide +kernel, by decide +kernel⟩, by decide +kernel⟩, by decide +kernel⟩
theorem pi_X8_run : Cond.instanceMethod yX8_run ∈ xWs ∧ Cond.selects yX8_run.cls yX8_run yX8_run ∈ xWs := ⟨kp_instanceMethod_yX8_run, kp_selects_yX8_run⟩
abbrev mX8_isInput : xY := (yX8_isInput, cX8_isInput, 2, (some .boolean))
theorem pm_X8_isInput : xMth mX8_isInput 2 := ⟨kp_code_yX8_isInput, kp_init_RX8, ⟨⟨by decide +kernel, by decide +kernel⟩, by decide +kernel⟩, by decide +kernel⟩
abbrev mX8_runsOne : xY := (yX8_runsOne, cX8_runsOne, 4, none)
theorem pm_X8_runsOne : xMth mX8_runsOne 3 := ⟨kp_code_yX8_runsOne, kp_init_RX8, ⟨⟨by decide +kernel, by decide +kernel⟩, by decide +kernel⟩, by decide +kernel⟩
theorem pi_X8_runsOne : Cond.instanceMethod yX8_runsOne ∈ xWs ∧ Cond.selects yX8_runsOne.cls yX8_runsOne yX8_runsOne ∈ xWs := ⟨kp_instanceMethod_yX8_runsOne, kp_selects_yX8_runsOne⟩
abbrev mX8_runs : xY := (yX8_runs, cX8_runs, 10, none)
theorem pm_X8_runs : xMth mX8_runs 3 := ⟨kp_code_yX8_runs, kp_init_RX8, ⟨⟨by decide +kernel, by decide +kernel⟩, by decide +kernel⟩, by decide +kernel⟩
theorem pi_X8_runs : Cond.instanceMethod yX8_runs ∈ xWs ∧ Cond.selects yX8_runs.cls yX8_runs yX8_runs ∈ xWs := ⟨kp_instanceMethod_yX8_runs, kp_selects_yX8_runs⟩
abbrev mX8_roundOf : xY := (yX8_roundOf, cX8_roundOf, 3, none)
theorem pm_X8_roundOf : xMth mX8_roundOf 2 := ⟨kp_code_yX8_roundOf, kp_init_RX8, ⟨⟨by decide +kernel, by decide +kernel⟩, by decide +kernel⟩, by decide +kernel⟩
theorem pi_X8_roundOf : Cond.instanceMethod yX8_roundOf ∈ xWs ∧ Cond.selects yX8_roundOf.cls yX8_roundOf yX8_roundOf ∈ xWs := ⟨kp_instanceMethod_yX8_roundOf, kp_selects_yX8_roundOf⟩
abbrev mX8_does : xY := (yX8_does, cX8_does, 4, none)
theorem pm_X8_does : xMth mX8_does 3 := ⟨kp_code_yX8_does, kp_init_RX8, ⟨⟨by decide +kernel, by decide +kernel⟩, by decide +kernel⟩, by decide +kernel⟩
theorem pi_X8_does : Cond.instanceMethod yX8_does ∈ xWs ∧ Cond.selects yX8_does.cls yX8_does yX8_does ∈ xWs := ⟨kp_instanceMethod_yX8_does, kp_selects_yX8_does⟩
abbrev mX8_sets : xY := (yX8_sets, cX8_sets, 7, none)
theorem pm_X8_sets : xMth mX8_sets 2 := ⟨kp_code_yX8_sets, kp_init_RX8, ⟨⟨by decide +kernel, by decide +kernel⟩, by decide +kernel⟩, by decide +kernel⟩
theorem pi_X8_sets : Cond.instanceMethod yX8_sets ∈ xWs ∧ Cond.selects yX8_sets.cls yX8_sets yX8_sets ∈ xWs := ⟨kp_instanceMethod_yX8_sets, kp_selects_yX8_sets⟩
abbrev mX8_term : xY := (yX8_term, cX8_term, 3, (some .int))
theorem pm_X8_term : xMth mX8_term 2 := ⟨kp_code_yX8_term, kp_init_RX8, ⟨⟨by decide +kernel, by decide +kernel⟩, by decide +kernel⟩, by decide +kernel⟩
theorem pi_X8_term : Cond.instanceMethod yX8_term ∈ xWs ∧ Cond.selects yX8_term.cls yX8_term yX8_term ∈ xWs := ⟨kp_instanceMethod_yX8_term, kp_selects_yX8_term⟩
abbrev mX8_held : xY := (yX8_held, cX8_held, 1, (some .int))
theorem pm_X8_held : xMth mX8_held 1 := ⟨kp_code_yX8_held, kp_init_RX8, ⟨⟨by decide +kernel, by decide +kernel⟩, by decide +kernel⟩, by decide +kernel⟩
abbrev mX8_tellsCell : xY := (yX8_tellsCell, cX8_tellsCell, 4, none)
theorem pm_X8_tellsCell : xMth mX8_tellsCell 2 := ⟨kp_code_yX8_tellsCell, kp_init_RX8, ⟨⟨by decide +kernel, by decide +kernel⟩, by decide +kernel⟩, by decide +kernel⟩
theorem pi_X8_tellsCell : Cond.instanceMethod yX8_tellsCell ∈ xWs ∧ Cond.selects yX8_tellsCell.cls yX8_tellsCell yX8_tellsCell ∈ xWs := ⟨kp_instanceMethod_yX8_tellsCell, kp_selects_yX8_tellsCell⟩
abbrev mX8_marks : xY := (yX8_marks, cX8_marks, 4, none)
theorem pm_X8_marks : xMth mX8_marks 1 := ⟨kp_code_yX8_marks, kp_init_RX8, ⟨⟨by decide +kernel, by decide +kernel⟩, by decide +kernel⟩, by decide +kernel⟩
theorem pi_X8_marks : Cond.instanceMethod yX8_marks ∈ xWs ∧ Cond.selects yX8_marks.cls yX8_marks yX8_marks ∈ xWs := ⟨kp_instanceMethod_yX8_marks, kp_selects_yX8_marks⟩
abbrev mX7_told : xY := (yX7_told, cX7_told, 5, (some .int))
theorem pm_X7_told : xMth mX7_told 4 := ⟨kp_code_yX7_told, kp_init_RX7, ⟨⟨by decide +kernel, by decide +kernel⟩, by decide +kernel⟩, by decide +kernel⟩
theorem pi_X7_told : Cond.instanceMethod yX7_told ∈ xWs ∧ Cond.selects yX7_told.cls yX7_told yX7_told ∈ xWs := ⟨kp_instanceMethod_yX7_told, kp_selects_yX7_told⟩
abbrev mX2_valueAt : xY := (yX2_valueAt, cX2_valueAt, 2, (some .int))
theorem pm_X2_valueAt : xMth mX2_valueAt 1 := ⟨kp_code_yX2_valueAt, kp_init_RX2, ⟨⟨by decide +kernel, by decide +kernel⟩, by decide +kernel⟩, by decide +kernel⟩
theorem pi_X2_valueAt : Cond.instanceMethod yX2_valueAt ∈ xWs ∧ Cond.selects yX2_valueAt.cls yX2_valueAt yX2_valueAt ∈ xWs := ⟨kp_instanceMethod_yX2_valueAt, kp_selects_yX2_valueAt⟩
abbrev mX8_told : xY := (yX8_told, cX8_told, 5, (some .int))
theorem pm_X8_told : xMth mX8_told 4 := ⟨kp_code_yX8_told, kp_init_RX8, ⟨⟨by decide +kernel, by decide +kernel⟩, by decide +kernel⟩, by decide +kernel⟩
theorem pi_X8_told : Cond.instanceMethod yX8_told ∈ xWs ∧ Cond.selects yX8_told.cls yX8_told yX8_told ∈ xWs := ⟨kp_instanceMethod_yX8_told, kp_selects_yX8_told⟩
abbrev mX8_least : xY := (yX8_least, cX8_least, 2, (some .int))
theorem pm_X8_least : xMth mX8_least 2 := ⟨kp_code_yX8_least, kp_init_RX8, ⟨⟨by decide +kernel, by decide +kernel⟩, by decide +kernel⟩, by decide +kernel⟩
abbrev mX7_cell : xY := (yX7_cell, cX7_cell, 7, (some .int))
theorem pm_X7_cell : xMth mX7_cell 5 := ⟨kp_code_yX7_cell, kp_init_RX7, ⟨⟨by decide +kernel, by decide +kernel⟩, by decide +kernel⟩, by decide +kernel⟩
theorem pi_X7_cell : Cond.instanceMethod yX7_cell ∈ xWs ∧ Cond.selects yX7_cell.cls yX7_cell yX7_cell ∈ xWs := ⟨kp_instanceMethod_yX7_cell, kp_selects_yX7_cell⟩
abbrev mX6_cellAtMark : xY := (yX6_cellAtMark, cX6_cellAtMark, 4, (some .int))
theorem pm_X6_cellAtMark : xMth mX6_cellAtMark 2 := ⟨kp_code_yX6_cellAtMark, kp_init_RX6, ⟨⟨by decide +kernel, by decide +kernel⟩, by decide +kernel⟩, by decide +kernel⟩
theorem pi_X6_cellAtMark : Cond.instanceMethod yX6_cellAtMark ∈ xWs ∧ Cond.selects yX6_cellAtMark.cls yX6_cellAtMark yX6_cellAtMark ∈ xWs := ⟨kp_instanceMethod_yX6_cellAtMark, kp_selects_yX6_cellAtMark⟩
abbrev mX6_marksKept : xY := (yX6_marksKept, cX6_marksKept, 1, (some .int))
theorem pm_X6_marksKept : xMth mX6_marksKept 0 := ⟨kp_code_yX6_marksKept, kp_init_RX6, ⟨⟨by decide +kernel, by decide +kernel⟩, by decide +kernel⟩, by decide +kernel⟩
theorem pi_X6_marksKept : Cond.instanceMethod yX6_marksKept ∈ xWs ∧ Cond.selects yX6_marksKept.cls yX6_marksKept yX6_marksKept ∈ xWs := ⟨kp_instanceMethod_yX6_marksKept, kp_selects_yX6_marksKept⟩
abbrev mX8_cell : xY := (yX8_cell, cX8_cell, 6, (some .int))
theorem pm_X8_cell : xMth mX8_cell 5 := ⟨kp_code_yX8_cell, kp_init_RX8, ⟨⟨by decide +kernel, by decide +kernel⟩, by decide +kernel⟩, by decide +kernel⟩
theorem pi_X8_cell : Cond.instanceMethod yX8_cell ∈ xWs ∧ Cond.selects yX8_cell.cls yX8_cell yX8_cell ∈ xWs := ⟨kp_instanceMethod_yX8_cell, kp_selects_yX8_cell⟩
abbrev mX8_isCell : xY := (yX8_isCell, cX8_isCell, 1, (some .boolean))
theorem pm_X8_isCell : xMth mX8_isCell 1 := ⟨kp_code_yX8_isCell, kp_init_RX8, ⟨⟨by decide +kernel, by decide +kernel⟩, by decide +kernel⟩, by decide +kernel⟩
abbrev mX7_pairs : xY := (yX7_pairs, cX7_pairs, 4, (some .int))
theorem pm_X7_pairs : xMth mX7_pairs 3 := ⟨kp_code_yX7_pairs, kp_init_RX7, ⟨⟨by decide +kernel, by decide +kernel⟩, by decide +kernel⟩, by decide +kernel⟩
theorem pi_X7_pairs : Cond.instanceMethod yX7_pairs ∈ xWs ∧ Cond.selects yX7_pairs.cls yX7_pairs yX7_pairs ∈ xWs := ⟨kp_instanceMethod_yX7_pairs, kp_selects_yX7_pairs⟩
abbrev mX4_follow : xY := (yX4_follow, cX4_follow, 5, none)
theorem pm_X4_follow : xMth mX4_follow 4 := ⟨kp_code_yX4_follow, kp_init_RX4, ⟨⟨by decide +kernel, by decide +kernel⟩, by decide +kernel⟩, by decide +kernel⟩
theorem pi_X4_follow : Cond.instanceMethod yX4_follow ∈ xWs ∧ Cond.selects yX4_follow.cls yX4_follow yX4_follow ∈ xWs := ⟨kp_instanceMethod_yX4_follow, kp_selects_yX4_follow⟩
abbrev mX4_pairsKept : xY := (yX4_pairsKept, cX4_pairsKept, 1, (some .int))
theorem pm_X4_pairsKept : xMth mX4_pairsKept 0 := ⟨kp_code_yX4_pairsKept, kp_init_RX4, ⟨⟨by decide +kernel, by decide +kernel⟩, by decide +kernel⟩, by decide +kernel⟩
theorem pi_X4_pairsKept : Cond.instanceMethod yX4_pairsKept ∈ xWs ∧ Cond.selects yX4_pairsKept.cls yX4_pairsKept yX4_pairsKept ∈ xWs := ⟨kp_instanceMethod_yX4_pairsKept, kp_selects_yX4_pairsKept⟩
abbrev mX4_greatestLead : xY := (yX4_greatestLead, cX4_greatestLead, 4, (some .int))
theorem pm_X4_greatestLead : xMth mX4_greatestLead 0 := ⟨kp_code_yX4_greatestLead, kp_init_RX4, ⟨⟨by decide +kernel, by decide +kernel⟩, by decide +kernel⟩, by decide +kernel⟩
theorem pi_X4_greatestLead : Cond.instanceMethod yX4_greatestLead ∈ xWs ∧ Cond.selects yX4_greatestLead.cls yX4_greatestLead yX4_greatestLead ∈ xWs := ⟨kp_instanceMethod_yX4_greatestLead, kp_selects_yX4_greatestLead⟩
abbrev mX4_leadAt : xY := (yX4_leadAt, cX4_leadAt, 2, (some .int))
theorem pm_X4_leadAt : xMth mX4_leadAt 1 := ⟨kp_code_yX4_leadAt, kp_init_RX4, ⟨⟨by decide +kernel, by decide +kernel⟩, by decide +kernel⟩, by decide +kernel⟩
theorem pi_X4_leadAt : Cond.instanceMethod yX4_leadAt ∈ xWs ∧ Cond.selects yX4_leadAt.cls yX4_leadAt yX4_leadAt ∈ xWs := ⟨kp_instanceMethod_yX4_leadAt, kp_selects_yX4_leadAt⟩
abbrev mX6_stepsAheadOf : xY := (yX6_stepsAheadOf, cX6_stepsAheadOf, 2, (some .int))
theorem pm_X6_stepsAheadOf : xMth mX6_stepsAheadOf 1 := ⟨kp_code_yX6_stepsAheadOf, kp_init_RX6, ⟨⟨by decide +kernel, by decide +kernel⟩, by decide +kernel⟩, by decide +kernel⟩
theorem pi_X6_stepsAheadOf : Cond.instanceMethod yX6_stepsAheadOf ∈ xWs ∧ Cond.selects yX6_stepsAheadOf.cls yX6_stepsAheadOf yX6_stepsAheadOf ∈ xWs := ⟨kp_instanceMethod_yX6_stepsAheadOf, kp_selects_yX6_stepsAheadOf⟩
abbrev mX4_lastLead : xY := (yX4_lastLead, cX4_lastLead, 2, (some .int))
theorem pm_X4_lastLead : xMth mX4_lastLead 0 := ⟨kp_code_yX4_lastLead, kp_init_RX4, ⟨⟨by decide +kernel, by decide +kernel⟩, by decide +kernel⟩, by decide +kernel⟩
theorem pi_X4_lastLead : Cond.instanceMethod yX4_lastLead ∈ xWs ∧ Cond.selects yX4_lastLead.cls yX4_lastLead yX4_lastLead ∈ xWs := ⟨kp_instanceMethod_yX4_lastLead, kp_selects_yX4_lastLead⟩
abbrev mX4_evenPairs : xY := (yX4_evenPairs, cX4_evenPairs, 4, (some .int))
theorem pm_X4_evenPairs : xMth mX4_evenPairs 0 := ⟨kp_code_yX4_evenPairs, kp_init_RX4, ⟨⟨by decide +kernel, by decide +kernel⟩, by decide +kernel⟩, by decide +kernel⟩
theorem pi_X4_evenPairs : Cond.instanceMethod yX4_evenPairs ∈ xWs ∧ Cond.selects yX4_evenPairs.cls yX4_evenPairs yX4_evenPairs ∈ xWs := ⟨kp_instanceMethod_yX4_evenPairs, kp_selects_yX4_evenPairs⟩
abbrev mX4_isEven : xY := (yX4_isEven, cX4_isEven, 3, (some .boolean))
theorem pm_X4_isEven : xMth mX4_isEven 1 := ⟨kp_code_yX4_isEven, kp_init_RX4, ⟨⟨by decide +kernel, by decide +kernel⟩, by decide +kernel⟩, by decide +kernel⟩
theorem pi_X4_isEven : Cond.instanceMethod yX4_isEven ∈ xWs ∧ Cond.selects yX4_isEven.cls yX4_isEven yX4_isEven ∈ xWs := ⟨kp_instanceMethod_yX4_isEven, kp_selects_yX4_isEven⟩
abbrev mX8_pairs : xY := (yX8_pairs, cX8_pairs, 5, (some .int))
theorem pm_X8_pairs : xMth mX8_pairs 3 := ⟨kp_code_yX8_pairs, kp_init_RX8, ⟨⟨by decide +kernel, by decide +kernel⟩, by decide +kernel⟩, by decide +kernel⟩
theorem pi_X8_pairs : Cond.instanceMethod yX8_pairs ∈ xWs ∧ Cond.selects yX8_pairs.cls yX8_pairs yX8_pairs ∈ xWs := ⟨kp_instanceMethod_yX8_pairs, kp_selects_yX8_pairs⟩
abbrev mX8_runsBoth : xY := (yX8_runsBoth, cX8_runsBoth, 3, none)
theorem pm_X8_runsBoth : xMth mX8_runsBoth 2 := ⟨kp_code_yX8_runsBoth, kp_init_RX8, ⟨⟨by decide +kernel, by decide +kernel⟩, by decide +kernel⟩, by decide +kernel⟩
theorem pi_X8_runsBoth : Cond.instanceMethod yX8_runsBoth ∈ xWs ∧ Cond.selects yX8_runsBoth.cls yX8_runsBoth yX8_runsBoth ∈ xWs := ⟨kp_instanceMethod_yX8_runsBoth, kp_selects_yX8_runsBoth⟩
abbrev mX8_pairMany : xY := (yX8_pairMany, cX8_pairMany, 1, (some .int))
theorem pm_X8_pairMany : xMth mX8_pairMany 0 := ⟨kp_code_yX8_pairMany, kp_init_RX8, ⟨⟨by decide +kernel, by decide +kernel⟩, by decide +kernel⟩, by decide +kernel⟩
theorem pi_X8_pairMany : Cond.instanceMethod yX8_pairMany ∈ xWs ∧ Cond.selects yX8_pairMany.cls yX8_pairMany yX8_pairMany ∈ xWs := ⟨kp_instanceMethod_yX8_pairMany, kp_selects_yX8_pairMany⟩
abbrev mX8_allEqual : xY := (yX8_allEqual, cX8_allEqual, 5, (some .int))
theorem pm_X8_allEqual : xMth mX8_allEqual 0 := ⟨kp_code_yX8_allEqual, kp_init_RX8, ⟨⟨by decide +kernel, by decide +kernel⟩, by decide +kernel⟩, by decide +kernel⟩
theorem pi_X8_allEqual : Cond.instanceMethod yX8_allEqual ∈ xWs ∧ Cond.selects yX8_allEqual.cls yX8_allEqual yX8_allEqual ∈ xWs := ⟨kp_instanceMethod_yX8_allEqual, kp_selects_yX8_allEqual⟩
abbrev mX8_isEqual : xY := (yX8_isEqual, cX8_isEqual, 4, (some .boolean))
theorem pm_X8_isEqual : xMth mX8_isEqual 3 := ⟨kp_code_yX8_isEqual, kp_init_RX8, ⟨⟨by decide +kernel, by decide +kernel⟩, by decide +kernel⟩, by decide +kernel⟩
theorem pi_X8_isEqual : Cond.instanceMethod yX8_isEqual ∈ xWs ∧ Cond.selects yX8_isEqual.cls yX8_isEqual yX8_isEqual ∈ xWs := ⟨kp_instanceMethod_yX8_isEqual, kp_selects_yX8_isEqual⟩
abbrev mX8_greatestLead : xY := (yX8_greatestLead, cX8_greatestLead, 4, (some .int))
theorem pm_X8_greatestLead : xMth mX8_greatestLead 0 := ⟨kp_code_yX8_greatestLead, kp_init_RX8, ⟨⟨by decide +kernel, by decide +kernel⟩, by decide +kernel⟩, by decide +kernel⟩
theorem pi_X8_greatestLead : Cond.instanceMethod yX8_greatestLead ∈ xWs ∧ Cond.selects yX8_greatestLead.cls yX8_greatestLead yX8_greatestLead ∈ xWs := ⟨kp_instanceMethod_yX8_greatestLead, kp_selects_yX8_greatestLead⟩
abbrev mX8_leadOf : xY := (yX8_leadOf, cX8_leadOf, 2, (some .int))
theorem pm_X8_leadOf : xMth mX8_leadOf 1 := ⟨kp_code_yX8_leadOf, kp_init_RX8, ⟨⟨by decide +kernel, by decide +kernel⟩, by decide +kernel⟩, by decide +kernel⟩
theorem pi_X8_leadOf : Cond.instanceMethod yX8_leadOf ∈ xWs ∧ Cond.selects yX8_leadOf.cls yX8_leadOf yX8_leadOf ∈ xWs := ⟨kp_instanceMethod_yX8_leadOf, kp_selects_yX8_leadOf⟩
abbrev mX7_equal : xY := (yX7_equal, cX7_equal, 4, (some .int))
theorem pm_X7_equal : xMth mX7_equal 3 := ⟨kp_code_yX7_equal, kp_init_RX7, ⟨⟨by decide +kernel, by decide +kernel⟩, by decide +kernel⟩, by decide +kernel⟩
theorem pi_X7_equal : Cond.instanceMethod yX7_equal ∈ xWs ∧ Cond.selects yX7_equal.cls yX7_equal yX7_equal ∈ xWs := ⟨kp_instanceMethod_yX7_equal, kp_selects_yX7_equal⟩
abbrev mX4_cellsEqualTo : xY := (yX4_cellsEqualTo, cX4_cellsEqualTo, 4, (some .int))
theorem pm_X4_cellsEqualTo : xMth mX4_cellsEqualTo 1 := ⟨kp_code_yX4_cellsEqualTo, kp_init_RX4, ⟨⟨by decide +kernel, by decide +kernel⟩, by decide +kernel⟩, by decide +kernel⟩
theorem pi_X4_cellsEqualTo : Cond.instanceMethod yX4_cellsEqualTo ∈ xWs ∧ Cond.selects yX4_cellsEqualTo.cls yX4_cellsEqualTo yX4_cellsEqualTo ∈ xWs := ⟨kp_instanceMethod_yX4_cellsEqualTo, kp_selects_yX4_cellsEqualTo⟩
abbrev mX4_isAlwaysSame : xY := (yX4_isAlwaysSame, cX4_isAlwaysSame, 5, (some .boolean))
theorem pm_X4_isAlwaysSame : xMth mX4_isAlwaysSame 2 := ⟨kp_code_yX4_isAlwaysSame, kp_init_RX4, ⟨⟨by decide +kernel, by decide +kernel⟩, by decide +kernel⟩, by decide +kernel⟩
theorem pi_X4_isAlwaysSame : Cond.instanceMethod yX4_isAlwaysSame ∈ xWs ∧ Cond.selects yX4_isAlwaysSame.cls yX4_isAlwaysSame yX4_isAlwaysSame ∈ xWs := ⟨kp_instanceMethod_yX4_isAlwaysSame, kp_selects_yX4_isAlwaysSame⟩
abbrev mX8_equal : xY := (yX8_equal, cX8_equal, 4, (some .int))
theorem pm_X8_equal : xMth mX8_equal 3 := ⟨kp_code_yX8_equal, kp_init_RX8, ⟨⟨by decide +kernel, by decide +kernel⟩, by decide +kernel⟩, by decide +kernel⟩
theorem pi_X8_equal : Cond.instanceMethod yX8_equal ∈ xWs ∧ Cond.selects yX8_equal.cls yX8_equal yX8_equal ∈ xWs := ⟨kp_instanceMethod_yX8_equal, kp_selects_yX8_equal⟩
abbrev mX8_equalTo : xY := (yX8_equalTo, cX8_equalTo, 6, (some .int))
theorem pm_X8_equalTo : xMth mX8_equalTo 1 := ⟨kp_code_yX8_equalTo, kp_init_RX8, ⟨⟨by decide +kernel, by decide +kernel⟩, by decide +kernel⟩, by decide +kernel⟩
theorem pi_X8_equalTo : Cond.instanceMethod yX8_equalTo ∈ xWs ∧ Cond.selects yX8_equalTo.cls yX8_equalTo yX8_equalTo ∈ xWs := ⟨kp_instanceMethod_yX8_equalTo, kp_selects_yX8_equalTo⟩
abbrev mX7_difference : xY := (yX7_difference, cX7_difference, 3, (some .int))
theorem pm_X7_difference : xMth mX7_difference 2 := ⟨kp_code_yX7_difference, kp_init_RX7, ⟨⟨by decide +kernel, by decide +kernel⟩, by decide +kernel⟩, by decide +kernel⟩
theorem pi_X7_difference : Cond.instanceMethod yX7_difference ∈ xWs ∧ Cond.selects yX7_difference.cls yX7_difference yX7_difference ∈ xWs := ⟨kp_instanceMethod_yX7_difference, kp_selects_yX7_difference⟩
abbrev mX2_firstDifference : xY := (yX2_firstDifference, cX2_firstDifference, 3, (some .int))
theorem pm_X2_firstDifference : xMth mX2_firstDifference 1 := ⟨kp_code_yX2_firstDifference, kp_init_RX2, ⟨⟨by decide +kernel, by decide +kernel⟩, by decide +kernel⟩, by decide +kernel⟩
theorem pi_X2_firstDifference : Cond.instanceMethod yX2_firstDifference ∈ xWs ∧ Cond.selects yX2_firstDifference.cls yX2_firstDifference yX2_firstDifference ∈ xWs := ⟨kp_instanceMethod_yX2_firstDifference, kp_selects_yX2_firstDifference⟩
abbrev mX8_difference : xY := (yX8_difference, cX8_difference, 3, (some .int))
theorem pm_X8_difference : xMth mX8_difference 2 := ⟨kp_code_yX8_difference, kp_init_RX8, ⟨⟨by decide +kernel, by decide +kernel⟩, by decide +kernel⟩, by decide +kernel⟩
theorem pi_X8_difference : Cond.instanceMethod yX8_difference ∈ xWs ∧ Cond.selects yX8_difference.cls yX8_difference yX8_difference ∈ xWs := ⟨kp_instanceMethod_yX8_difference, kp_selects_yX8_difference⟩
abbrev mX8_firstDifference : xY := (yX8_firstDifference, cX8_firstDifference, 4, (some .int))
theorem pm_X8_firstDifference : xMth mX8_firstDifference 0 := ⟨kp_code_yX8_firstDifference, kp_init_RX8, ⟨⟨by decide +kernel, by decide +kernel⟩, by decide +kernel⟩, by decide +kernel⟩
theorem pi_X8_firstDifference : Cond.instanceMethod yX8_firstDifference ∈ xWs ∧ Cond.selects yX8_firstDifference.cls yX8_firstDifference yX8_firstDifference ∈ xWs := ⟨kp_instanceMethod_yX8_firstDifference, kp_selects_yX8_firstDifference⟩
abbrev mX7_agree : xY := (yX7_agree, cX7_agree, 7, (some .int))
theorem pm_X7_agree : xMth mX7_agree 3 := ⟨kp_code_yX7_agree, kp_init_RX7, ⟨⟨by decide +kernel, by decide +kernel⟩, by decide +kernel⟩, by decide +kernel⟩
theorem pi_X7_agree : Cond.instanceMethod yX7_agree ∈ xWs ∧ Cond.selects yX7_agree.cls yX7_agree yX7_agree ∈ xWs := ⟨kp_instanceMethod_yX7_agree, kp_selects_yX7_agree⟩
abbrev mX4_inAgreement : xY := (yX4_inAgreement, cX4_inAgreement, 1, (some .boolean))
theorem pm_X4_inAgreement : xMth mX4_inAgreement 0 := ⟨kp_code_yX4_inAgreement, kp_init_RX4, ⟨⟨by decide +kernel, by decide +kernel⟩, by decide +kernel⟩, by decide +kernel⟩
theorem pi_X4_inAgreement : Cond.instanceMethod yX4_inAgreement ∈ xWs ∧ Cond.selects yX4_inAgreement.cls yX4_inAgreement yX4_inAgreement ∈ xWs := ⟨kp_instanceMethod_yX4_inAgreement, kp_selects_yX4_inAgreement⟩
abbrev mX2_hasValuesOf : xY := (yX2_hasValuesOf, cX2_hasValuesOf, 2, (some .boolean))
theorem pm_X2_hasValuesOf : xMth mX2_hasValuesOf 1 := ⟨kp_code_yX2_hasValuesOf, kp_init_RX2, ⟨⟨by decide +kernel, by decide +kernel⟩, by decide +kernel⟩, by decide +kernel⟩
theorem pi_X2_hasValuesOf : Cond.instanceMethod yX2_hasValuesOf ∈ xWs ∧ Cond.selects yX2_hasValuesOf.cls yX2_hasValuesOf yX2_hasValuesOf ∈ xWs := ⟨kp_instanceMethod_yX2_hasValuesOf, kp_selects_yX2_hasValuesOf⟩
abbrev mX8_agree : xY := (yX8_agree, cX8_agree, 11, (some .int))
theorem pm_X8_agree : xMth mX8_agree 3 := ⟨kp_code_yX8_agree, kp_init_RX8, ⟨⟨by decide +kernel, by decide +kernel⟩, by decide +kernel⟩, by decide +kernel⟩
theorem pi_X8_agree : Cond.instanceMethod yX8_agree ∈ xWs ∧ Cond.selects yX8_agree.cls yX8_agree yX8_agree ∈ xWs := ⟨kp_instanceMethod_yX8_agree, kp_selects_yX8_agree⟩
abbrev mX8_agreeOn : xY := (yX8_agreeOn, cX8_agreeOn, 3, (some .boolean))
theorem pm_X8_agreeOn : xMth mX8_agreeOn 2 := ⟨kp_code_yX8_agreeOn, kp_init_RX8, ⟨⟨by decide +kernel, by decide +kernel⟩, by decide +kernel⟩, by decide +kernel⟩
theorem pi_X8_agreeOn : Cond.instanceMethod yX8_agreeOn ∈ xWs ∧ Cond.selects yX8_agreeOn.cls yX8_agreeOn yX8_agreeOn ∈ xWs := ⟨kp_instanceMethod_yX8_agreeOn, kp_selects_yX8_agreeOn⟩
abbrev mX7_always : xY := (yX7_always, cX7_always, 4, (some .int))
theorem pm_X7_always : xMth mX7_always 1 := ⟨kp_code_yX7_always, kp_init_RX7, ⟨⟨by decide +kernel, by decide +kernel⟩, by decide +kernel⟩, by decide +kernel⟩
theorem pi_X7_always : Cond.instanceMethod yX7_always ∈ xWs ∧ Cond.selects yX7_always.cls yX7_always yX7_always ∈ xWs := ⟨kp_instanceMethod_yX7_always, kp_selects_yX7_always⟩
abbrev mX7_triedFirst : xY := (yX7_triedFirst, cX7_triedFirst, 1, (some .int))
theorem pm_X7_triedFirst : xMth mX7_triedFirst 1 := ⟨kp_code_yX7_triedFirst, kp_init_RX7, ⟨⟨by decide +kernel, by decide +kernel⟩, by decide +kernel⟩, by decide +kernel⟩
abbrev mX7_triedSecond : xY := (yX7_triedSecond, cX7_triedSecond, 1, (some .int))
theorem pm_X7_triedSecond : xMth mX7_triedSecond 1 := ⟨kp_code_yX7_triedSecond, kp_init_RX7, ⟨⟨by decide +kernel, by decide +kernel⟩, by decide +kernel⟩, by decide +kernel⟩
abbrev mX8_always : xY := (yX8_always, cX8_always, 4, (some .int))
theorem pm_X8_always : xMth mX8_always 1 := ⟨kp_code_yX8_always, kp_init_RX8, ⟨⟨by decide +kernel, by decide +kernel⟩, by decide +kernel⟩, by decide +kernel⟩
theorem pi_X8_always : Cond.instanceMethod yX8_always ∈ xWs ∧ Cond.selects yX8_always.cls yX8_always yX8_always ∈ xWs := ⟨kp_instanceMethod_yX8_always, kp_selects_yX8_always⟩
abbrev mX7_idle : xY := (yX7_idle, cX7_idle, 4, (some .int))
theorem pm_X7_idle : xMth mX7_idle 1 := ⟨kp_code_yX7_idle, kp_init_RX7, ⟨⟨by decide +kernel, by decide +kernel⟩, by decide +kernel⟩, by decide +kernel⟩
theorem pi_X7_idle : Cond.instanceMethod yX7_idle ∈ xWs ∧ Cond.selects yX7_idle.cls yX7_idle yX7_idle ∈ xWs := ⟨kp_instanceMethod_yX7_idle, kp_selects_yX7_idle⟩
abbrev mX7_keepOutputsOf : xY := (yX7_keepOutputsOf, cX7_keepOutputsOf, 4, none)
theorem pm_X7_keepOutputsOf : xMth mX7_keepOutputsOf 1 := ⟨kp_code_yX7_keepOutputsOf, kp_init_RX7, ⟨⟨by decide +kernel, by decide +kernel⟩, by decide +kernel⟩, by decide +kernel⟩
theorem pi_X7_keepOutputsOf : Cond.instanceMethod yX7_keepOutputsOf ∈ xWs ∧ Cond.selects yX7_keepOutputsOf.cls yX7_keepOutputsOf yX7_keepOutputsOf ∈ xWs := ⟨kp_instanceMethod_yX7_keepOutputsOf, kp_selects_yX7_keepOutputsOf⟩
abbrev mX2_takeFrom : xY := (yX2_takeFrom, cX2_takeFrom, 2, none)
theorem pm_X2_takeFrom : xMth mX2_takeFrom 1 := ⟨kp_code_yX2_takeFrom, kp_init_RX2, ⟨⟨by decide +kernel, by decide +kernel⟩, by decide +kernel⟩, by decide +kernel⟩
theorem pi_X2_takeFrom : Cond.instanceMethod yX2_takeFrom ∈ xWs ∧ Cond.selects yX2_takeFrom.cls yX2_takeFrom yX2_takeFrom ∈ xWs := ⟨kp_instanceMethod_yX2_takeFrom, kp_selects_yX2_takeFrom⟩
abbrev mX7_putsOutAsBefore : xY := (yX7_putsOutAsBefore, cX7_putsOutAsBefore, 5, (some .boolean))
theorem pm_X7_putsOutAsBefore : xMth mX7_putsOutAsBefore 1 := ⟨kp_code_yX7_putsOutAsBefore, kp_init_RX7, ⟨⟨by decide +kernel, by decide +kernel⟩, by decide +kernel⟩, by decide +kernel⟩
theorem pi_X7_putsOutAsBefore : Cond.instanceMethod yX7_putsOutAsBefore ∈ xWs ∧ Cond.selects yX7_putsOutAsBefore.cls yX7_putsOutAsBefore yX7_putsOutAsBefore ∈ xWs := ⟨kp_instanceMethod_yX7_putsOutAsBefore, kp_selects_yX7_putsOutAsBefore⟩
abbrev mX8_idle : xY := (yX8_idle, cX8_idle, 3, (some .int))
theorem pm_X8_idle : xMth mX8_idle 1 := ⟨kp_code_yX8_idle, kp_init_RX8, ⟨⟨by decide +kernel, by decide +kernel⟩, by decide +kernel⟩, by decide +kernel⟩
theorem pi_X8_idle : Cond.instanceMethod yX8_idle ∈ xWs ∧ Cond.selects yX8_idle.cls yX8_idle yX8_idle ∈ xWs := ⟨kp_instanceMethod_yX8_idle, kp_selects_yX8_idle⟩
abbrev mX8_keeps : xY := (yX8_keeps, cX8_keeps, 4, none)
theorem pm_X8_keeps : xMth mX8_keeps 1 := ⟨kp_code_yX8_keeps, kp_init_RX8, ⟨⟨by decide +kernel, by decide +kernel⟩, by decide +kernel⟩, by decide +kernel⟩
theorem pi_X8_keeps : Cond.instanceMethod yX8_keeps ∈ xWs ∧ Cond.selects yX8_keeps.cls yX8_keeps yX8_keeps ∈ xWs := ⟨kp_instanceMethod_yX8_keeps, kp_selects_yX8_keeps⟩
abbrev mX8_isIdle : xY := (yX8_isIdle, cX8_isIdle, 6, (some .boolean))
theorem pm_X8_isIdle : xMth mX8_isIdle 2 := ⟨kp_code_yX8_isIdle, kp_init_RX8, ⟨⟨by decide +kernel, by decide +kernel⟩, by decide +kernel⟩, by decide +kernel⟩
theorem pi_X8_isIdle : Cond.instanceMethod yX8_isIdle ∈ xWs ∧ Cond.selects yX8_isIdle.cls yX8_isIdle yX8_isIdle ∈ xWs := ⟨kp_instanceMethod_yX8_isIdle, kp_selects_yX8_isIdle⟩
theorem fl_X0_11 : xFld RX0 11 0 0 := ⟨RX0, TX0, 3, rfl, by decide, Or.inl kf_X0_11⟩
theorem fl_X0_17 : xFld RX0 17 0 1 := ⟨RX0, TX0, 3, rfl, by decide, Or.inl kf_X0_17⟩
theorem fl_X0_21 : xFld RX0 21 0 2 := ⟨RX0, TX0, 3, rfl, by decide, Or.inl kf_X0_21⟩
theorem fl_X1_9 : xFld RX1 9 1 1 := ⟨RX1, TX1, 10, rfl, by decide, Or.inl kf_X1_9⟩
theorem fl_X1_15 : xFld RX1 15 1 2 := ⟨RX1, TX1, 10, rfl, by decide, Or.inl kf_X1_15⟩
theorem fl_X1_18 : xFld RX1 18 1 3 := ⟨RX1, TX1, 10, rfl, by decide, Or.inl kf_X1_18⟩
theorem fl_X1_21 : xFld RX1 21 1 4 := ⟨RX1, TX1, 10, rfl, by decide, Or.inl kf_X1_21⟩
theorem fl_X1_24 : xFld RX1 24 1 5 := ⟨RX1, TX1, 10, rfl, by decide, Or.inl kf_X1_24⟩
theorem fl_X1_27 : xFld RX1 27 1 6 := ⟨RX1, TX1, 10, rfl, by decide, Or.inl kf_X1_27⟩
theorem fl_X1_30 : xFld RX1 30 1 7 := ⟨RX1, TX1, 10, rfl, by decide, Or.inl kf_X1_30⟩
theorem fl_X1_33 : xFld RX1 33 1 8 := ⟨RX1, TX1, 10, rfl, by decide, Or.inl kf_X1_33⟩
theorem fl_X1_36 : xFld RX1 36 1 9 := ⟨RX1, TX1, 10, rfl, by decide, Or.inl kf_X1_36⟩
theorem fl_X1_39 : xFld RX1 39 1 0 := ⟨RX1, TX1, 10, rfl, by decide, Or.inl kf_X1_39⟩
theorem fl_X2_9 : xFld RX2 9 2 0 := ⟨RX2, TX2, 3, rfl, by decide, Or.inl kf_X2_9⟩
theorem fl_X2_15 : xFld RX2 15 2 1 := ⟨RX2, TX2, 3, rfl, by decide, Or.inl kf_X2_15⟩
theorem fl_X2_23 : xFld RX2 23 2 2 := ⟨RX2, TX2, 3, rfl, by decide, Or.inl kf_X2_23⟩
theorem fl_X3_9 : xFld RX3 9 3 2 := ⟨RX3, TX3, 6, rfl, by decide, Or.inl kf_X3_9⟩
theorem fl_X3_15 : xFld RX3 15 3 3 := ⟨RX3, TX3, 6, rfl, by decide, Or.inl kf_X3_15⟩
theorem fl_X3_18 : xFld RX3 18 3 0 := ⟨RX3, TX3, 6, rfl, by decide, Or.inl kf_X3_18⟩
theorem fl_X3_22 : xFld RX3 22 3 1 := ⟨RX3, TX3, 6, rfl, by decide, Or.inl kf_X3_22⟩
theorem fl_X3_26 : xFld RX3 26 1 0 := ⟨RX1, TX1, 10, rfl, by decide, Or.inr ⟨"PairedSteps", xnest _ (List.mem_of_getElem? (i := 3) rfl)⟩⟩
theorem fl_X3_32 : xFld RX3 32 3 4 := ⟨RX3, TX3, 6, rfl, by decide, Or.inl kf_X3_32⟩
theorem fl_X3_35 : xFld RX3 35 3 5 := ⟨RX3, TX3, 6, rfl, by decide, Or.inl kf_X3_35⟩
theorem fl_X4_12 : xFld RX4 12 4 0 := ⟨RX4, TX4, 2, rfl, by decide, Or.inl kf_X4_12⟩
theorem fl_X4_18 : xFld RX4 18 4 1 := ⟨RX4, TX4, 2, rfl, by decide, Or.inl kf_X4_18⟩
theorem fl_X4_62 : xFld RX4 62 6 0 := ⟨RX6, TX6, 9, rfl, by decide, Or.inr ⟨"PairedSteps", xnest _ (List.mem_of_getElem? (i := 15) rfl)⟩⟩
theorem fl_X4_66 : xFld RX4 66 2 2 := ⟨RX2, TX2, 3, rfl, by decide, Or.inr ⟨"PairedSteps", xnest _ (List.mem_of_getElem? (i := 13) rfl)⟩⟩
theorem fl_X5_9 : xFld RX5 9 5 0 := ⟨RX5, TX5, 2, rfl, by decide, Or.inl kf_X5_9⟩
theorem fl_X5_15 : xFld RX5 15 5 1 := ⟨RX5, TX5, 2, rfl, by decide, Or.inl kf_X5_15⟩
theorem fl_X6_12 : xFld RX6 12 6 0 := ⟨RX6, TX6, 9, rfl, by decide, Or.inl kf_X6_12⟩
theorem fl_X6_18 : xFld RX6 18 6 1 := ⟨RX6, TX6, 9, rfl, by decide, Or.inl kf_X6_18⟩
theorem fl_X6_22 : xFld RX6 22 6 2 := ⟨RX6, TX6, 9, rfl, by decide, Or.inl kf_X6_22⟩
theorem fl_X6_25 : xFld RX6 25 6 3 := ⟨RX6, TX6, 9, rfl, by decide, Or.inl kf_X6_25⟩
theorem fl_X6_28 : xFld RX6 28 6 4 := ⟨RX6, TX6, 9, rfl, by decide, Or.inl kf_X6_28⟩
theorem fl_X6_45 : xFld RX6 45 6 5 := ⟨RX6, TX6, 9, rfl, by decide, Or.inl kf_X6_45⟩
theorem fl_X6_49 : xFld RX6 49 2 2 := ⟨RX2, TX2, 3, rfl, by decide, Or.inr ⟨"PairedSteps", xnest _ (List.mem_of_getElem? (i := 12) rfl)⟩⟩
theorem fl_X6_55 : xFld RX6 55 6 6 := ⟨RX6, TX6, 9, rfl, by decide, Or.inl kf_X6_55⟩
theorem fl_X6_58 : xFld RX6 58 6 7 := ⟨RX6, TX6, 9, rfl, by decide, Or.inl kf_X6_58⟩
theorem fl_X6_61 : xFld RX6 61 6 8 := ⟨RX6, TX6, 9, rfl, by decide, Or.inl kf_X6_61⟩
theorem fl_X7_12 : xFld RX7 12 7 0 := ⟨RX7, TX7, 8, rfl, by decide, Or.inl kf_X7_12⟩
theorem fl_X7_19 : xFld RX7 19 7 1 := ⟨RX7, TX7, 8, rfl, by decide, Or.inl kf_X7_19⟩
theorem fl_X7_28 : xFld RX7 28 7 2 := ⟨RX7, TX7, 8, rfl, by decide, Or.inl kf_X7_28⟩
theorem fl_X7_35 : xFld RX7 35 7 3 := ⟨RX7, TX7, 8, rfl, by decide, Or.inl kf_X7_35⟩
theorem fl_X7_42 : xFld RX7 42 7 4 := ⟨RX7, TX7, 8, rfl, by decide, Or.inl kf_X7_42⟩
theorem fl_X7_48 : xFld RX7 48 7 5 := ⟨RX7, TX7, 8, rfl, by decide, Or.inl kf_X7_48⟩
theorem fl_X7_53 : xFld RX7 53 7 6 := ⟨RX7, TX7, 8, rfl, by decide, Or.inl kf_X7_53⟩
theorem fl_X7_56 : xFld RX7 56 7 7 := ⟨RX7, TX7, 8, rfl, by decide, Or.inl kf_X7_56⟩
theorem fl_X7_71 : xFld RX7 71 5 1 := ⟨RX5, TX5, 2, rfl, by decide, Or.inr ⟨"PairedSteps", xnest _ (List.mem_of_getElem? (i := 1) rfl)⟩⟩
theorem fl_X7_82 : xFld RX7 82 3 5 := ⟨RX3, TX3, 6, rfl, by decide, Or.inr ⟨"PairedSteps", xnest _ (List.mem_of_getElem? (i := 5) rfl)⟩⟩
theorem fl_X7_97 : xFld RX7 97 1 0 := ⟨RX1, TX1, 10, rfl, by decide, Or.inr ⟨"PairedSteps", xnest _ (List.mem_of_getElem? (i := 4) rfl)⟩⟩
theorem fl_X7_107 : xFld RX7 107 0 2 := ⟨RX0, TX0, 3, rfl, by decide, Or.inr ⟨"PairedSteps", xnest _ (List.mem_of_getElem? (i := 7) rfl)⟩⟩
theorem fl_X7_130 : xFld RX7 130 6 5 := ⟨RX6, TX6, 9, rfl, by decide, Or.inr ⟨"PairedSteps", xnest _ (List.mem_of_getElem? (i := 17) rfl)⟩⟩
theorem fl_X7_135 : xFld RX7 135 6 0 := ⟨RX6, TX6, 9, rfl, by decide, Or.inr ⟨"PairedSteps", xnest _ (List.mem_of_getElem? (i := 16) rfl)⟩⟩
theorem fl_X7_139 : xFld RX7 139 2 2 := ⟨RX2, TX2, 3, rfl, by decide, Or.inr ⟨"PairedSteps", xnest _ (List.mem_of_getElem? (i := 14) rfl)⟩⟩
theorem fl_X7_143 : xFld RX7 143 2 1 := ⟨RX2, TX2, 3, rfl, by decide, Or.inr ⟨"PairedSteps", xnest _ (List.mem_of_getElem? (i := 11) rfl)⟩⟩
theorem fl_X7_146 : xFld RX7 146 6 6 := ⟨RX6, TX6, 9, rfl, by decide, Or.inr ⟨"PairedSteps", xnest _ (List.mem_of_getElem? (i := 18) rfl)⟩⟩
theorem fl_X7_149 : xFld RX7 149 6 7 := ⟨RX6, TX6, 9, rfl, by decide, Or.inr ⟨"PairedSteps", xnest _ (List.mem_of_getElem? (i := 19) rfl)⟩⟩
theorem fl_X7_152 : xFld RX7 152 6 8 := ⟨RX6, TX6, 9, rfl, by decide, Or.inr ⟨"PairedSteps", xnest _ (List.mem_of_getElem? (i := 20) rfl)⟩⟩
theorem fl_X7_187 : xFld RX7 187 4 0 := ⟨RX4, TX4, 2, rfl, by decide, Or.inr ⟨"PairedSteps", xnest _ (List.mem_of_getElem? (i := 21) rfl)⟩⟩
theorem fl_X7_190 : xFld RX7 190 4 1 := ⟨RX4, TX4, 2, rfl, by decide, Or.inr ⟨"PairedSteps", xnest _ (List.mem_of_getElem? (i := 22) rfl)⟩⟩
theorem fl_X8_7 : xFld RX8 7 8 0 := ⟨RX8, TX8, 20, rfl, by decide, Or.inl kf_X8_7⟩
theorem fl_X8_13 : xFld RX8 13 8 1 := ⟨RX8, TX8, 20, rfl, by decide, Or.inl kf_X8_13⟩
theorem fl_X8_16 : xFld RX8 16 8 3 := ⟨RX8, TX8, 20, rfl, by decide, Or.inl kf_X8_16⟩
theorem fl_X8_19 : xFld RX8 19 8 5 := ⟨RX8, TX8, 20, rfl, by decide, Or.inl kf_X8_19⟩
theorem fl_X8_22 : xFld RX8 22 8 7 := ⟨RX8, TX8, 20, rfl, by decide, Or.inl kf_X8_22⟩
theorem fl_X8_25 : xFld RX8 25 8 8 := ⟨RX8, TX8, 20, rfl, by decide, Or.inl kf_X8_25⟩
theorem fl_X8_28 : xFld RX8 28 8 9 := ⟨RX8, TX8, 20, rfl, by decide, Or.inl kf_X8_28⟩
theorem fl_X8_31 : xFld RX8 31 8 10 := ⟨RX8, TX8, 20, rfl, by decide, Or.inl kf_X8_31⟩
theorem fl_X8_34 : xFld RX8 34 8 11 := ⟨RX8, TX8, 20, rfl, by decide, Or.inl kf_X8_34⟩
theorem fl_X8_37 : xFld RX8 37 8 12 := ⟨RX8, TX8, 20, rfl, by decide, Or.inl kf_X8_37⟩
theorem fl_X8_40 : xFld RX8 40 8 13 := ⟨RX8, TX8, 20, rfl, by decide, Or.inl kf_X8_40⟩
theorem fl_X8_43 : xFld RX8 43 8 14 := ⟨RX8, TX8, 20, rfl, by decide, Or.inl kf_X8_43⟩
theorem fl_X8_46 : xFld RX8 46 8 15 := ⟨RX8, TX8, 20, rfl, by decide, Or.inl kf_X8_46⟩
theorem fl_X8_49 : xFld RX8 49 8 16 := ⟨RX8, TX8, 20, rfl, by decide, Or.inl kf_X8_49⟩
theorem fl_X8_52 : xFld RX8 52 8 17 := ⟨RX8, TX8, 20, rfl, by decide, Or.inl kf_X8_52⟩
theorem fl_X8_55 : xFld RX8 55 8 18 := ⟨RX8, TX8, 20, rfl, by decide, Or.inl kf_X8_55⟩
theorem fl_X8_58 : xFld RX8 58 8 19 := ⟨RX8, TX8, 20, rfl, by decide, Or.inl kf_X8_58⟩
theorem fl_X8_65 : xFld RX8 65 8 2 := ⟨RX8, TX8, 20, rfl, by decide, Or.inl kf_X8_65⟩
theorem fl_X8_69 : xFld RX8 69 8 4 := ⟨RX8, TX8, 20, rfl, by decide, Or.inl kf_X8_69⟩
theorem fl_X8_72 : xFld RX8 72 8 6 := ⟨RX8, TX8, 20, rfl, by decide, Or.inl kf_X8_72⟩
theorem lm_L_9 : xLnk RL 9 yX7_init := Or.inl km_L_9
theorem lm_L_12 : xLnk RL 12 yX8_init := Or.inl km_L_12
theorem lm_L_13 : xLnk RL 13 yX7_append := Or.inl km_L_13
theorem lm_L_17 : xLnk RL 17 yX8_append := Or.inl km_L_17
theorem lm_L_18 : xLnk RL 18 yX7_clearText := Or.inl km_L_18
theorem lm_L_22 : xLnk RL 22 yX8_clearText := Or.inl km_L_22
theorem lm_L_23 : xLnk RL 23 yX7_read := Or.inl km_L_23
theorem lm_L_26 : xLnk RL 26 yX8_read := Or.inl km_L_26
theorem lm_L_27 : xLnk RL 27 yX7_copy := Or.inl km_L_27
theorem lm_L_30 : xLnk RL 30 yX8_copy := Or.inl km_L_30
theorem lm_L_31 : xLnk RL 31 yX7_exchange := Or.inl km_L_31
theorem lm_L_34 : xLnk RL 34 yX8_exchange := Or.inl km_L_34
theorem lm_L_35 : xLnk RL 35 yX7_cut := Or.inl km_L_35
theorem lm_L_39 : xLnk RL 39 yX8_cut := Or.inl km_L_39
theorem lm_L_40 : xLnk RL 40 yX7_undo := Or.inl km_L_40
theorem lm_L_43 : xLnk RL 43 yX8_undo := Or.inl km_L_43
theorem lm_L_44 : xLnk RL 44 yX7_count := Or.inl km_L_44
theorem lm_L_47 : xLnk RL 47 yX8_count := Or.inl km_L_47
theorem lm_L_48 : xLnk RL 48 yX7_program := Or.inl km_L_48
theorem lm_L_51 : xLnk RL 51 yX8_program := Or.inl km_L_51
theorem lm_L_52 : xLnk RL 52 yX7_run := Or.inl km_L_52
theorem lm_L_56 : xLnk RL 56 yX8_run := Or.inl km_L_56
theorem lm_L_57 : xLnk RL 57 yX7_told := Or.inl km_L_57
theorem lm_L_60 : xLnk RL 60 yX8_told := Or.inl km_L_60
theorem lm_L_61 : xLnk RL 61 yX7_cell := Or.inl km_L_61
theorem lm_L_65 : xLnk RL 65 yX8_cell := Or.inl km_L_65
theorem lm_L_66 : xLnk RL 66 yX7_pairs := Or.inl km_L_66
theorem lm_L_70 : xLnk RL 70 yX8_pairs := Or.inl km_L_70
theorem lm_L_71 : xLnk RL 71 yX7_equal := Or.inl km_L_71
theorem lm_L_74 : xLnk RL 74 yX8_equal := Or.inl km_L_74
theorem lm_L_75 : xLnk RL 75 yX7_difference := Or.inl km_L_75
theorem lm_L_78 : xLnk RL 78 yX8_difference := Or.inl km_L_78
theorem lm_L_79 : xLnk RL 79 yX7_agree := Or.inl km_L_79
theorem lm_L_82 : xLnk RL 82 yX8_agree := Or.inl km_L_82
theorem lm_L_83 : xLnk RL 83 yX7_always := Or.inl km_L_83
theorem lm_L_86 : xLnk RL 86 yX8_always := Or.inl km_L_86
theorem lm_L_87 : xLnk RL 87 yX7_idle := Or.inl km_L_87
theorem lm_L_90 : xLnk RL 90 yX8_idle := Or.inl km_L_90
theorem lm_X0_20 : xLnk RX0 20 yX1_init := Or.inr ⟨"PairedSteps", xnest _ (List.mem_of_getElem? (i := 6) rfl)⟩
theorem lm_X0_25 : xLnk RX0 25 yX0_dropOldest := Or.inl km_X0_25
theorem lm_X0_28 : xLnk RX0 28 yX7_isWithin := Or.inr ⟨"PairedSteps", xnest _ (List.mem_of_getElem? (i := 28) rfl)⟩
theorem lm_X0_32 : xLnk RX0 32 yX1_takeFrom := Or.inl km_X0_32
theorem lm_X1_49 : xLnk RX1 49 yX7_isWithin := Or.inr ⟨"PairedSteps", xnest _ (List.mem_of_getElem? (i := 27) rfl)⟩
theorem lm_X1_53 : xLnk RX1 53 yX1_holds := Or.inl km_X1_53
theorem lm_X1_63 : xLnk RX1 63 yX1_moveDown := Or.inl km_X1_63
theorem lm_X1_67 : xLnk RX1 67 yX1_placeWithout := Or.inl km_X1_67
theorem lm_X1_71 : xLnk RX1 71 yX1_link := Or.inl km_X1_71
theorem lm_X1_74 : xLnk RX1 74 yX1_followerOf := Or.inl km_X1_74
theorem lm_X1_78 : xLnk RX1 78 yX1_item := Or.inl km_X1_78
theorem lm_X1_82 : xLnk RX1 82 yX1_kindOf := Or.inl km_X1_82
theorem lm_X1_85 : xLnk RX1 85 yX1_followerAt := Or.inl km_X1_85
theorem lm_X1_88 : xLnk RX1 88 yX1_depthOf := Or.inl km_X1_88
theorem lm_X2_19 : xLnk RX2 19 yX7_isWithin := Or.inr ⟨"PairedSteps", xnest _ (List.mem_of_getElem? (i := 30) rfl)⟩
theorem lm_X2_39 : xLnk RX2 39 yX2_valueAt := Or.inl km_X2_39
theorem lm_X2_43 : xLnk RX2 43 yX2_firstDifference := Or.inl km_X2_43
theorem lm_X3_38 : xLnk RX3 38 yX3_nextSign := Or.inl km_X3_38
theorem lm_X3_42 : xLnk RX3 42 yX3_awaitedSign := Or.inl km_X3_42
theorem lm_X3_45 : xLnk RX3 45 yX3_readStatement := Or.inl km_X3_45
theorem lm_X3_49 : xLnk RX3 49 yX1_link := Or.inl km_X3_49
theorem lm_X3_52 : xLnk RX3 52 yX3_goOn := Or.inl km_X3_52
theorem lm_X3_56 : xLnk RX3 56 yX1_isFull := Or.inl km_X3_56
theorem lm_X3_60 : xLnk RX3 60 yX3_readTell := Or.inl km_X3_60
theorem lm_X3_63 : xLnk RX3 63 yX3_take := Or.inl km_X3_63
theorem lm_X3_66 : xLnk RX3 66 yX3_innermost := Or.inl km_X3_66
theorem lm_X3_69 : xLnk RX3 69 yX1_add := Or.inl km_X3_69
theorem lm_X3_73 : xLnk RX3 73 yX3_readOpening := Or.inl km_X3_73
theorem lm_X3_77 : xLnk RX3 77 yX3_readSetting := Or.inl km_X3_77
theorem lm_X3_80 : xLnk RX3 80 yX3_takeCell := Or.inl km_X3_80
theorem lm_X3_83 : xLnk RX3 83 yX3_takeTerm := Or.inl km_X3_83
theorem lm_X3_86 : xLnk RX3 86 yX3_takeOperator := Or.inl km_X3_86
theorem lm_X3_89 : xLnk RX3 89 yX1_setTerms := Or.inl km_X3_89
theorem lm_X3_93 : xLnk RX3 93 yX7_isWithin := Or.inr ⟨"PairedSteps", xnest _ (List.mem_of_getElem? (i := 25) rfl)⟩
theorem lm_X3_96 : xLnk RX3 96 yX1_endFirstPart := Or.inl km_X3_96
theorem lm_X3_99 : xLnk RX3 99 yX1_close := Or.inl km_X3_99
theorem lm_X3_102 : xLnk RX3 102 yX5_signAt := Or.inl km_X3_102
theorem lm_X3_108 : xLnk RX3 108 yX7_isCell := Or.inr ⟨"PairedSteps", xnest _ (List.mem_of_getElem? (i := 26) rfl)⟩
theorem lm_X3_111 : xLnk RX3 111 yX3_isDigit := Or.inl km_X3_111
theorem lm_X3_114 : xLnk RX3 114 yX3_takeNumber := Or.inl km_X3_114
theorem lm_X4_11 : xLnk RX4 11 yX6_init := Or.inr ⟨"PairedSteps", xnest _ (List.mem_of_getElem? (i := 9) rfl)⟩
theorem lm_X4_21 : xLnk RX4 21 yX6_follow := Or.inl km_X4_21
theorem lm_X4_25 : xLnk RX4 25 yX6_marksKept := Or.inl km_X4_25
theorem lm_X4_35 : xLnk RX4 35 yX6_stepsAheadOf := Or.inl km_X4_35
theorem lm_X4_39 : xLnk RX4 39 yX4_pairsKept := Or.inl km_X4_39
theorem lm_X4_42 : xLnk RX4 42 yX4_leadAt := Or.inl km_X4_42
theorem lm_X4_51 : xLnk RX4 51 yX4_isEven := Or.inl km_X4_51
theorem lm_X4_55 : xLnk RX4 55 yX6_cellAtMark := Or.inl km_X4_55
theorem lm_X4_58 : xLnk RX4 58 yX4_isAlwaysSame := Or.inl km_X4_58
theorem lm_X4_72 : xLnk RX4 72 yX2_hasValuesOf := Or.inl km_X4_72
theorem lm_X5_19 : xLnk RX5 19 yX7_isWithin := Or.inr ⟨"PairedSteps", xnest _ (List.mem_of_getElem? (i := 24) rfl)⟩
theorem lm_X6_11 : xLnk RX6 11 yX2_init := Or.inr ⟨"PairedSteps", xnest _ (List.mem_of_getElem? (i := 10) rfl)⟩
theorem lm_X6_31 : xLnk RX6 31 yX6_begin := Or.inl km_X6_31
theorem lm_X6_35 : xLnk RX6 35 yX1_holds := Or.inl km_X6_35
theorem lm_X6_41 : xLnk RX6 41 yX6_stepFrom := Or.inl km_X6_41
theorem lm_X6_53 : xLnk RX6 53 yX2_begin := Or.inl km_X6_53
theorem lm_X6_64 : xLnk RX6 64 yX1_kindOf := Or.inl km_X6_64
theorem lm_X6_68 : xLnk RX6 68 yX1_targetOf := Or.inl km_X6_68
theorem lm_X6_71 : xLnk RX6 71 yX6_resultOf := Or.inl km_X6_71
theorem lm_X6_74 : xLnk RX6 74 yX6_setCell := Or.inl km_X6_74
theorem lm_X6_77 : xLnk RX6 77 yX1_followerAt := Or.inl km_X6_77
theorem lm_X6_80 : xLnk RX6 80 yX6_valueOf := Or.inl km_X6_80
theorem lm_X6_83 : xLnk RX6 83 yX2_add := Or.inl km_X6_83
theorem lm_X6_87 : xLnk RX6 87 yX6_keepMark := Or.inl km_X6_87
theorem lm_X6_90 : xLnk RX6 90 yX6_look := Or.inl km_X6_90
theorem lm_X6_93 : xLnk RX6 93 yX1_entered := Or.inl km_X6_93
theorem lm_X6_96 : xLnk RX6 96 yX1_passed := Or.inl km_X6_96
theorem lm_X6_99 : xLnk RX6 99 yX7_isWithin := Or.inr ⟨"PairedSteps", xnest _ (List.mem_of_getElem? (i := 31) rfl)⟩
theorem lm_X6_109 : xLnk RX6 109 yX1_leftOf := Or.inl km_X6_109
theorem lm_X6_112 : xLnk RX6 112 yX6_termValue := Or.inl km_X6_112
theorem lm_X6_115 : xLnk RX6 115 yX1_rightOf := Or.inl km_X6_115
theorem lm_X6_118 : xLnk RX6 118 yX1_operatorOf := Or.inl km_X6_118
theorem lm_X6_121 : xLnk RX6 121 yX6_nearestValue := Or.inl km_X6_121
theorem lm_X6_127 : xLnk RX6 127 yX7_isCell := Or.inr ⟨"PairedSteps", xnest _ (List.mem_of_getElem? (i := 29) rfl)⟩
theorem lm_X6_136 : xLnk RX6 136 yX6_marksKept := Or.inl km_X6_136
theorem lm_X7_11 : xLnk RX7 11 yX5_init := Or.inr ⟨"PairedSteps", xnest _ (List.mem_of_getElem? (i := 0) rfl)⟩
theorem lm_X7_18 : xLnk RX7 18 yX1_init := Or.inr ⟨"PairedSteps", xnest _ (List.mem_of_getElem? (i := 2) rfl)⟩
theorem lm_X7_25 : xLnk RX7 25 yX3_init := Or.inl km_X7_25
theorem lm_X7_34 : xLnk RX7 34 yX0_init := Or.inl km_X7_34
theorem lm_X7_41 : xLnk RX7 41 yX4_init := Or.inr ⟨"PairedSteps", xnest _ (List.mem_of_getElem? (i := 8) rfl)⟩
theorem lm_X7_52 : xLnk RX7 52 yX2_init := Or.inr ⟨"PairedSteps", xnest _ (List.mem_of_getElem? (i := 23) rfl)⟩
theorem lm_X7_59 : xLnk RX7 59 yX7_isWithin := Or.inl km_X7_59
theorem lm_X7_63 : xLnk RX7 63 yX5_isFull := Or.inl km_X7_63
theorem lm_X7_67 : xLnk RX7 67 yX5_add := Or.inl km_X7_67
theorem lm_X7_75 : xLnk RX7 75 yX7_isProgram := Or.inl km_X7_75
theorem lm_X7_79 : xLnk RX7 79 yX3_readDraft := Or.inl km_X7_79
theorem lm_X7_85 : xLnk RX7 85 yX0_push := Or.inl km_X7_85
theorem lm_X7_89 : xLnk RX7 89 yX7_listingOf := Or.inl km_X7_89
theorem lm_X7_93 : xLnk RX7 93 yX1_takeFrom := Or.inl km_X7_93
theorem lm_X7_100 : xLnk RX7 100 yX1_holds := Or.inl km_X7_100
theorem lm_X7_103 : xLnk RX7 103 yX1_remove := Or.inl km_X7_103
theorem lm_X7_108 : xLnk RX7 108 yX0_pop := Or.inl km_X7_108
theorem lm_X7_111 : xLnk RX7 111 yX1_tally := Or.inl km_X7_111
theorem lm_X7_115 : xLnk RX7 115 yX1_nesting := Or.inl km_X7_115
theorem lm_X7_119 : xLnk RX7 119 yX1_settableCells := Or.inl km_X7_119
theorem lm_X7_122 : xLnk RX7 122 yX7_isInput := Or.inl km_X7_122
theorem lm_X7_126 : xLnk RX7 126 yX7_traceOf := Or.inl km_X7_126
theorem lm_X7_155 : xLnk RX7 155 yX2_valueAt := Or.inl km_X7_155
theorem lm_X7_158 : xLnk RX7 158 yX7_isCell := Or.inl km_X7_158
theorem lm_X7_161 : xLnk RX7 161 yX6_valueOf := Or.inl km_X7_161
theorem lm_X7_164 : xLnk RX7 164 yX6_cellAtMark := Or.inl km_X7_164
theorem lm_X7_168 : xLnk RX7 168 yX4_follow := Or.inl km_X7_168
theorem lm_X7_172 : xLnk RX7 172 yX4_pairsKept := Or.inl km_X7_172
theorem lm_X7_175 : xLnk RX7 175 yX4_greatestLead := Or.inl km_X7_175
theorem lm_X7_178 : xLnk RX7 178 yX4_lastLead := Or.inl km_X7_178
theorem lm_X7_181 : xLnk RX7 181 yX4_evenPairs := Or.inl km_X7_181
theorem lm_X7_184 : xLnk RX7 184 yX4_cellsEqualTo := Or.inl km_X7_184
theorem lm_X7_192 : xLnk RX7 192 yX2_firstDifference := Or.inl km_X7_192
theorem lm_X7_196 : xLnk RX7 196 yX4_inAgreement := Or.inl km_X7_196
theorem lm_X7_199 : xLnk RX7 199 yX7_triedFirst := Or.inl km_X7_199
theorem lm_X7_202 : xLnk RX7 202 yX7_triedSecond := Or.inl km_X7_202
theorem lm_X7_205 : xLnk RX7 205 yX7_keepOutputsOf := Or.inl km_X7_205
theorem lm_X7_208 : xLnk RX7 208 yX7_putsOutAsBefore := Or.inl km_X7_208
theorem lm_X7_212 : xLnk RX7 212 yX6_follow := Or.inl km_X7_212
theorem lm_X7_215 : xLnk RX7 215 yX2_takeFrom := Or.inl km_X7_215
theorem lm_X7_218 : xLnk RX7 218 yX2_hasValuesOf := Or.inl km_X7_218
theorem lm_X8_61 : xLnk RX8 61 yX8_within := Or.inl km_X8_61
theorem lm_X8_75 : xLnk RX8 75 yX8_here := Or.inl km_X8_75
theorem lm_X8_79 : xLnk RX8 79 yX8_isLetter := Or.inl km_X8_79
theorem lm_X8_83 : xLnk RX8 83 yX8_put := Or.inl km_X8_83
theorem lm_X8_87 : xLnk RX8 87 yX8_readsCell := Or.inl km_X8_87
theorem lm_X8_90 : xLnk RX8 90 yX8_passes := Or.inl km_X8_90
theorem lm_X8_93 : xLnk RX8 93 yX8_readsTerm := Or.inl km_X8_93
theorem lm_X8_97 : xLnk RX8 97 yX8_readsSetting := Or.inl km_X8_97
theorem lm_X8_100 : xLnk RX8 100 yX8_kindOf := Or.inl km_X8_100
theorem lm_X8_104 : xLnk RX8 104 yX8_readsStatement := Or.inl km_X8_104
theorem lm_X8_107 : xLnk RX8 107 yX8_isProgram := Or.inl km_X8_107
theorem lm_X8_110 : xLnk RX8 110 yX8_readsAll := Or.inl km_X8_110
theorem lm_X8_114 : xLnk RX8 114 yX8_saves := Or.inl km_X8_114
theorem lm_X8_117 : xLnk RX8 117 yX8_lays := Or.inl km_X8_117
theorem lm_X8_121 : xLnk RX8 121 yX8_takes := Or.inl km_X8_121
theorem lm_X8_124 : xLnk RX8 124 yX8_of := Or.inl km_X8_124
theorem lm_X8_128 : xLnk RX8 128 yX8_sizeOf := Or.inl km_X8_128
theorem lm_X8_131 : xLnk RX8 131 yX8_isStatement := Or.inl km_X8_131
theorem lm_X8_134 : xLnk RX8 134 yX8_cuts := Or.inl km_X8_134
theorem lm_X8_137 : xLnk RX8 137 yX8_depthAll := Or.inl km_X8_137
theorem lm_X8_140 : xLnk RX8 140 yX8_canSet := Or.inl km_X8_140
theorem lm_X8_143 : xLnk RX8 143 yX8_ofKind := Or.inl km_X8_143
theorem lm_X8_146 : xLnk RX8 146 yX8_term := Or.inl km_X8_146
theorem lm_X8_149 : xLnk RX8 149 yX8_held := Or.inl km_X8_149
theorem lm_X8_152 : xLnk RX8 152 yX8_roundOf := Or.inl km_X8_152
theorem lm_X8_156 : xLnk RX8 156 yX8_does := Or.inl km_X8_156
theorem lm_X8_159 : xLnk RX8 159 yX8_sets := Or.inl km_X8_159
theorem lm_X8_162 : xLnk RX8 162 yX8_tellsCell := Or.inl km_X8_162
theorem lm_X8_165 : xLnk RX8 165 yX8_marks := Or.inl km_X8_165
theorem lm_X8_168 : xLnk RX8 168 yX8_runs := Or.inl km_X8_168
theorem lm_X8_171 : xLnk RX8 171 yX8_isInput := Or.inl km_X8_171
theorem lm_X8_174 : xLnk RX8 174 yX8_runsOne := Or.inl km_X8_174
theorem lm_X8_177 : xLnk RX8 177 yX8_least := Or.inl km_X8_177
theorem lm_X8_180 : xLnk RX8 180 yX8_isCell := Or.inl km_X8_180
theorem lm_X8_183 : xLnk RX8 183 yX8_pairMany := Or.inl km_X8_183
theorem lm_X8_186 : xLnk RX8 186 yX8_leadOf := Or.inl km_X8_186
theorem lm_X8_189 : xLnk RX8 189 yX8_isEqual := Or.inl km_X8_189
theorem lm_X8_192 : xLnk RX8 192 yX8_runsBoth := Or.inl km_X8_192
theorem lm_X8_195 : xLnk RX8 195 yX8_allEqual := Or.inl km_X8_195
theorem lm_X8_198 : xLnk RX8 198 yX8_greatestLead := Or.inl km_X8_198
theorem lm_X8_201 : xLnk RX8 201 yX8_equalTo := Or.inl km_X8_201
theorem lm_X8_204 : xLnk RX8 204 yX8_firstDifference := Or.inl km_X8_204
theorem lm_X8_207 : xLnk RX8 207 yX8_agreeOn := Or.inl km_X8_207
theorem lm_X8_210 : xLnk RX8 210 yX8_keeps := Or.inl km_X8_210
theorem lm_X8_213 : xLnk RX8 213 yX8_isIdle := Or.inl km_X8_213
end
section
/-! the reference: its cells from m on, by a state μ -/
def mcell (m : Nat) (μ : xS) (i : Nat) : xC := match i with
  | 0 => ob 8 [.ref (m + 1), .ref (m + 2), .int (μ 2 0), .ref (m + 3), .int (μ 4 0), .ref (m + 4), .int (μ 6 0), .ref (m + 5), .ref (m + 6), .ref (m + 7), .ref (m + 8), .ref (m + 9), .ref (m + 10), .ref (m + 11), .ref (m + 12), .ref (m + 13), .ref (m + 14), .ref (m + 15), .ref (m + 16), .ref (m + 17)]
  | 1 => aI 0 842 (μ 0)
  | 2 => aI 0 4210 (μ 1)
  | 3 => aI 0 120 (μ 3)
  | 4 => aI 0 421 (μ 5)
  | 5 => aI 0 5 (μ 7)
  | 6 => aI 0 5 (μ 8)
  | 7 => aI 0 12 (μ 9)
  | 8 => aI 0 80 (μ 10)
  | 9 => aI 0 80 (μ 11)
  | 10 => aI 0 480 (μ 12)
  | 11 => aI 0 12 (μ 13)
  | 12 => aI 0 6 (μ 14)
  | 13 => aI 0 6 (μ 15)
  | 14 => aI 0 6 (μ 16)
  | 15 => aI 0 640 (μ 17)
  | 16 => aI 0 16 (μ 18)
  | _ => aI 0 16 (μ 19)
def mput (f : Nat → xC) (m : Nat) (μ : xS) : Nat → xC := bput f m 18 (mcell m μ)
theorem mput_0 (f : Nat → xC) (m : Nat) (μ : xS) : mput f m μ m = ob 8 [.ref (m + 1), .ref (m + 2), .int (μ 2 0), .ref (m + 3), .int (μ 4 0), .ref (m + 4), .int (μ 6 0), .ref (m + 5), .ref (m + 6), .ref (m + 7), .ref (m + 8), .ref (m + 9), .ref (m + 10), .ref (m + 11), .ref (m + 12), .ref (m + 13), .ref (m + 14), .ref (m + 15), .ref (m + 16), .ref (m + 17)] := bput_in (i := 0) (by decide)
theorem mput_r {f : Nat → xC} {m i : Nat} {μ : xS} (h : i < 18) : mput f m μ (m + i) = mcell m μ i := bput_in h
theorem mw_0 (f : Nat → xC) (m : Nat) (μ : xS) (j : Nat) (v : Int32) : xu (mput f m μ) (m + 1) (aI 0 842 (upd (μ 0) j v)) = mput f m (up2 μ 0 j v) := by
  refine (bput_xu (i := 1) (by decide)).trans (bput_congr fun i hi => ?_)
  match i, hi with
  | 0, _ => rfl
  | 1, _ => rfl
  | 2, _ => rfl
  | 3, _ => rfl
  | 4, _ => rfl
  | 5, _ => rfl
  | 6, _ => rfl
  | 7, _ => rfl
  | 8, _ => rfl
  | 9, _ => rfl
  | 10, _ => rfl
  | 11, _ => rfl
  | 12, _ => rfl
  | 13, _ => rfl
  | 14, _ => rfl
  | 15, _ => rfl
  | 16, _ => rfl
  | 17, _ => rfl
  | i + 18, h => exact absurd h (by omega)
theorem mw_1 (f : Nat → xC) (m : Nat) (μ : xS) (j : Nat) (v : Int32) : xu (mput f m μ) (m + 2) (aI 0 4210 (upd (μ 1) j v)) = mput f m (up2 μ 1 j v) := by
  refine (bput_xu (i := 2) (by decide)).trans (bput_congr fun i hi => ?_)
  match i, hi with
  | 0, _ => rfl
  | 1, _ => rfl
  | 2, _ => rfl
  | 3, _ => rfl
  | 4, _ => rfl
  | 5, _ => rfl
  | 6, _ => rfl
  | 7, _ => rfl
  | 8, _ => rfl
  | 9, _ => rfl
  | 10, _ => rfl
  | 11, _ => rfl
  | 12, _ => rfl
  | 13, _ => rfl
  | 14, _ => rfl
  | 15, _ => rfl
  | 16, _ => rfl
  | 17, _ => rfl
  | i + 18, h => exact absurd h (by omega)
theorem mw_3 (f : Nat → xC) (m : Nat) (μ : xS) (j : Nat) (v : Int32) : xu (mput f m μ) (m + 3) (aI 0 120 (upd (μ 3) j v)) = mput f m (up2 μ 3 j v) := by
  refine (bput_xu (i := 3) (by decide)).trans (bput_congr fun i hi => ?_)
  match i, hi with
  | 0, _ => rfl
  | 1, _ => rfl
  | 2, _ => rfl
  | 3, _ => rfl
  | 4, _ => rfl
  | 5, _ => rfl
  | 6, _ => rfl
  | 7, _ => rfl
  | 8, _ => rfl
  | 9, _ => rfl
  | 10, _ => rfl
  | 11, _ => rfl
  | 12, _ => rfl
  | 13, _ => rfl
  | 14, _ => rfl
  | 15, _ => rfl
  | 16, _ => rfl
  | 17, _ => rfl
  | i + 18, h => exact absurd h (by omega)
theorem mw_5 (f : Nat → xC) (m : Nat) (μ : xS) (j : Nat) (v : Int32) : xu (mput f m μ) (m + 4) (aI 0 421 (upd (μ 5) j v)) = mput f m (up2 μ 5 j v) := by
  refine (bput_xu (i := 4) (by decide)).trans (bput_congr fun i hi => ?_)
  match i, hi with
  | 0, _ => rfl
  | 1, _ => rfl
  | 2, _ => rfl
  | 3, _ => rfl
  | 4, _ => rfl
  | 5, _ => rfl
  | 6, _ => rfl
  | 7, _ => rfl
  | 8, _ => rfl
  | 9, _ => rfl
  | 10, _ => rfl
  | 11, _ => rfl
  | 12, _ => rfl
  | 13, _ => rfl
  | 14, _ => rfl
  | 15, _ => rfl
  | 16, _ => rfl
  | 17, _ => rfl
  | i + 18, h => exact absurd h (by omega)
theorem mw_7 (f : Nat → xC) (m : Nat) (μ : xS) (j : Nat) (v : Int32) : xu (mput f m μ) (m + 5) (aI 0 5 (upd (μ 7) j v)) = mput f m (up2 μ 7 j v) := by
  refine (bput_xu (i := 5) (by decide)).trans (bput_congr fun i hi => ?_)
  match i, hi with
  | 0, _ => rfl
  | 1, _ => rfl
  | 2, _ => rfl
  | 3, _ => rfl
  | 4, _ => rfl
  | 5, _ => rfl
  | 6, _ => rfl
  | 7, _ => rfl
  | 8, _ => rfl
  | 9, _ => rfl
  | 10, _ => rfl
  | 11, _ => rfl
  | 12, _ => rfl
  | 13, _ => rfl
  | 14, _ => rfl
  | 15, _ => rfl
  | 16, _ => rfl
  | 17, _ => rfl
  | i + 18, h => exact absurd h (by omega)
theorem mw_8 (f : Nat → xC) (m : Nat) (μ : xS) (j : Nat) (v : Int32) : xu (mput f m μ) (m + 6) (aI 0 5 (upd (μ 8) j v)) = mput f m (up2 μ 8 j v) := by
  refine (bput_xu (i := 6) (by decide)).trans (bput_congr fun i hi => ?_)
  match i, hi with
  | 0, _ => rfl
  | 1, _ => rfl
  | 2, _ => rfl
  | 3, _ => rfl
  | 4, _ => rfl
  | 5, _ => rfl
  | 6, _ => rfl
  | 7, _ => rfl
  | 8, _ => rfl
  | 9, _ => rfl
  | 10, _ => rfl
  | 11, _ => rfl
  | 12, _ => rfl
  | 13, _ => rfl
  | 14, _ => rfl
  | 15, _ => rfl
  | 16, _ => rfl
  | 17, _ => rfl
  | i + 18, h => exact absurd h (by omega)
theorem mw_9 (f : Nat → xC) (m : Nat) (μ : xS) (j : Nat) (v : Int32) : xu (mput f m μ) (m + 7) (aI 0 12 (upd (μ 9) j v)) = mput f m (up2 μ 9 j v) := by
  refine (bput_xu (i := 7) (by decide)).trans (bput_congr fun i hi => ?_)
  match i, hi with
  | 0, _ => rfl
  | 1, _ => rfl
  | 2, _ => rfl
  | 3, _ => rfl
  | 4, _ => rfl
  | 5, _ => rfl
  | 6, _ => rfl
  | 7, _ => rfl
  | 8, _ => rfl
  | 9, _ => rfl
  | 10, _ => rfl
  | 11, _ => rfl
  | 12, _ => rfl
  | 13, _ => rfl
  | 14, _ => rfl
  | 15, _ => rfl
  | 16, _ => rfl
  | 17, _ => rfl
  | i + 18, h => exact absurd h (by omega)
theorem mw_10 (f : Nat → xC) (m : Nat) (μ : xS) (j : Nat) (v : Int32) : xu (mput f m μ) (m + 8) (aI 0 80 (upd (μ 10) j v)) = mput f m (up2 μ 10 j v) := by
  refine (bput_xu (i := 8) (by decide)).trans (bput_congr fun i hi => ?_)
  match i, hi with
  | 0, _ => rfl
  | 1, _ => rfl
  | 2, _ => rfl
  | 3, _ => rfl
  | 4, _ => rfl
  | 5, _ => rfl
  | 6, _ => rfl
  | 7, _ => rfl
  | 8, _ => rfl
  | 9, _ => rfl
  | 10, _ => rfl
  | 11, _ => rfl
  | 12, _ => rfl
  | 13, _ => rfl
  | 14, _ => rfl
  | 15, _ => rfl
  | 16, _ => rfl
  | 17, _ => rfl
  | i + 18, h => exact absurd h (by omega)
theorem mw_11 (f : Nat → xC) (m : Nat) (μ : xS) (j : Nat) (v : Int32) : xu (mput f m μ) (m + 9) (aI 0 80 (upd (μ 11) j v)) = mput f m (up2 μ 11 j v) := by
  refine (bput_xu (i := 9) (by decide)).trans (bput_congr fun i hi => ?_)
  match i, hi with
  | 0, _ => rfl
  | 1, _ => rfl
  | 2, _ => rfl
  | 3, _ => rfl
  | 4, _ => rfl
  | 5, _ => rfl
  | 6, _ => rfl
  | 7, _ => rfl
  | 8, _ => rfl
  | 9, _ => rfl
  | 10, _ => rfl
  | 11, _ => rfl
  | 12, _ => rfl
  | 13, _ => rfl
  | 14, _ => rfl
  | 15, _ => rfl
  | 16, _ => rfl
  | 17, _ => rfl
  | i + 18, h => exact absurd h (by omega)
theorem mw_12 (f : Nat → xC) (m : Nat) (μ : xS) (j : Nat) (v : Int32) : xu (mput f m μ) (m + 10) (aI 0 480 (upd (μ 12) j v)) = mput f m (up2 μ 12 j v) := by
  refine (bput_xu (i := 10) (by decide)).trans (bput_congr fun i hi => ?_)
  match i, hi with
  | 0, _ => rfl
  | 1, _ => rfl
  | 2, _ => rfl
  | 3, _ => rfl
  | 4, _ => rfl
  | 5, _ => rfl
  | 6, _ => rfl
  | 7, _ => rfl
  | 8, _ => rfl
  | 9, _ => rfl
  | 10, _ => rfl
  | 11, _ => rfl
  | 12, _ => rfl
  | 13, _ => rfl
  | 14, _ => rfl
  | 15, _ => rfl
  | 16, _ => rfl
  | 17, _ => rfl
  | i + 18, h => exact absurd h (by omega)
theorem mw_13 (f : Nat → xC) (m : Nat) (μ : xS) (j : Nat) (v : Int32) : xu (mput f m μ) (m + 11) (aI 0 12 (upd (μ 13) j v)) = mput f m (up2 μ 13 j v) := by
  refine (bput_xu (i := 11) (by decide)).trans (bput_congr fun i hi => ?_)
  match i, hi with
  | 0, _ => rfl
  | 1, _ => rfl
  | 2, _ => rfl
  | 3, _ => rfl
  | 4, _ => rfl
  | 5, _ => rfl
  | 6, _ => rfl
  | 7, _ => rfl
  | 8, _ => rfl
  | 9, _ => rfl
  | 10, _ => rfl
  | 11, _ => rfl
  | 12, _ => rfl
  | 13, _ => rfl
  | 14, _ => rfl
  | 15, _ => rfl
  | 16, _ => rfl
  | 17, _ => rfl
  | i + 18, h => exact absurd h (by omega)
theorem mw_14 (f : Nat → xC) (m : Nat) (μ : xS) (j : Nat) (v : Int32) : xu (mput f m μ) (m + 12) (aI 0 6 (upd (μ 14) j v)) = mput f m (up2 μ 14 j v) := by
  refine (bput_xu (i := 12) (by decide)).trans (bput_congr fun i hi => ?_)
  match i, hi with
  | 0, _ => rfl
  | 1, _ => rfl
  | 2, _ => rfl
  | 3, _ => rfl
  | 4, _ => rfl
  | 5, _ => rfl
  | 6, _ => rfl
  | 7, _ => rfl
  | 8, _ => rfl
  | 9, _ => rfl
  | 10, _ => rfl
  | 11, _ => rfl
  | 12, _ => rfl
  | 13, _ => rfl
  | 14, _ => rfl
  | 15, _ => rfl
  | 16, _ => rfl
  | 17, _ => rfl
  | i + 18, h => exact absurd h (by omega)
theorem mw_15 (f : Nat → xC) (m : Nat) (μ : xS) (j : Nat) (v : Int32) : xu (mput f m μ) (m + 13) (aI 0 6 (upd (μ 15) j v)) = mput f m (up2 μ 15 j v) := by
  refine (bput_xu (i := 13) (by decide)).trans (bput_congr fun i hi => ?_)
  match i, hi with
  | 0, _ => rfl
  | 1, _ => rfl
  | 2, _ => rfl
  | 3, _ => rfl
  | 4, _ => rfl
  | 5, _ => rfl
  | 6, _ => rfl
  | 7, _ => rfl
  | 8, _ => rfl
  | 9, _ => rfl
  | 10, _ => rfl
  | 11, _ => rfl
  | 12, _ => rfl
  | 13, _ => rfl
  | 14, _ => rfl
  | 15, _ => rfl
  | 16, _ => rfl
  | 17, _ => rfl
  | i + 18, h => exact absurd h (by omega)
theorem mw_16 (f : Nat → xC) (m : Nat) (μ : xS) (j : Nat) (v : Int32) : xu (mput f m μ) (m + 14) (aI 0 6 (upd (μ 16) j v)) = mput f m (up2 μ 16 j v) := by
  refine (bput_xu (i := 14) (by decide)).trans (bput_congr fun i hi => ?_)
  match i, hi with
  | 0, _ => rfl
  | 1, _ => rfl
  | 2, _ => rfl
  | 3, _ => rfl
  | 4, _ => rfl
  | 5, _ => rfl
  | 6, _ => rfl
  | 7, _ => rfl
  | 8, _ => rfl
  | 9, _ => rfl
  | 10, _ => rfl
  | 11, _ => rfl
  | 12, _ => rfl
  | 13, _ => rfl
  | 14, _ => rfl
  | 15, _ => rfl
  | 16, _ => rfl
  | 17, _ => rfl
  | i + 18, h => exact absurd h (by omega)
theorem mw_17 (f : Nat → xC) (m : Nat) (μ : xS) (j : Nat) (v : Int32) : xu (mput f m μ) (m + 15) (aI 0 640 (upd (μ 17) j v)) = mput f m (up2 μ 17 j v) := by
  refine (bput_xu (i := 15) (by decide)).trans (bput_congr fun i hi => ?_)
  match i, hi with
  | 0, _ => rfl
  | 1, _ => rfl
  | 2, _ => rfl
  | 3, _ => rfl
  | 4, _ => rfl
  | 5, _ => rfl
  | 6, _ => rfl
  | 7, _ => rfl
  | 8, _ => rfl
  | 9, _ => rfl
  | 10, _ => rfl
  | 11, _ => rfl
  | 12, _ => rfl
  | 13, _ => rfl
  | 14, _ => rfl
  | 15, _ => rfl
  | 16, _ => rfl
  | 17, _ => rfl
  | i + 18, h => exact absurd h (by omega)
theorem mw_18 (f : Nat → xC) (m : Nat) (μ : xS) (j : Nat) (v : Int32) : xu (mput f m μ) (m + 16) (aI 0 16 (upd (μ 18) j v)) = mput f m (up2 μ 18 j v) := by
  refine (bput_xu (i := 16) (by decide)).trans (bput_congr fun i hi => ?_)
  match i, hi with
  | 0, _ => rfl
  | 1, _ => rfl
  | 2, _ => rfl
  | 3, _ => rfl
  | 4, _ => rfl
  | 5, _ => rfl
  | 6, _ => rfl
  | 7, _ => rfl
  | 8, _ => rfl
  | 9, _ => rfl
  | 10, _ => rfl
  | 11, _ => rfl
  | 12, _ => rfl
  | 13, _ => rfl
  | 14, _ => rfl
  | 15, _ => rfl
  | 16, _ => rfl
  | 17, _ => rfl
  | i + 18, h => exact absurd h (by omega)
theorem mw_19 (f : Nat → xC) (m : Nat) (μ : xS) (j : Nat) (v : Int32) : xu (mput f m μ) (m + 17) (aI 0 16 (upd (μ 19) j v)) = mput f m (up2 μ 19 j v) := by
  refine (bput_xu (i := 17) (by decide)).trans (bput_congr fun i hi => ?_)
  match i, hi with
  | 0, _ => rfl
  | 1, _ => rfl
  | 2, _ => rfl
  | 3, _ => rfl
  | 4, _ => rfl
  | 5, _ => rfl
  | 6, _ => rfl
  | 7, _ => rfl
  | 8, _ => rfl
  | 9, _ => rfl
  | 10, _ => rfl
  | 11, _ => rfl
  | 12, _ => rfl
  | 13, _ => rfl
  | 14, _ => rfl
  | 15, _ => rfl
  | 16, _ => rfl
  | 17, _ => rfl
  | i + 18, h => exact absurd h (by omega)
theorem mw_2 (f : Nat → xC) (m : Nat) (μ : xS) (v : Int32) : xu (mput f m μ) m (ob 8 [.ref (m + 1), .ref (m + 2), .int (v), .ref (m + 3), .int (μ 4 0), .ref (m + 4), .int (μ 6 0), .ref (m + 5), .ref (m + 6), .ref (m + 7), .ref (m + 8), .ref (m + 9), .ref (m + 10), .ref (m + 11), .ref (m + 12), .ref (m + 13), .ref (m + 14), .ref (m + 15), .ref (m + 16), .ref (m + 17)]) = mput f m (up2 μ 2 0 v) := by
  refine (bput_xu (i := 0) (by decide)).trans (bput_congr fun i hi => ?_)
  match i, hi with
  | 0, _ => rfl
  | 1, _ => rfl
  | 2, _ => rfl
  | 3, _ => rfl
  | 4, _ => rfl
  | 5, _ => rfl
  | 6, _ => rfl
  | 7, _ => rfl
  | 8, _ => rfl
  | 9, _ => rfl
  | 10, _ => rfl
  | 11, _ => rfl
  | 12, _ => rfl
  | 13, _ => rfl
  | 14, _ => rfl
  | 15, _ => rfl
  | 16, _ => rfl
  | 17, _ => rfl
  | i + 18, h => exact absurd h (by omega)
theorem mw_4 (f : Nat → xC) (m : Nat) (μ : xS) (v : Int32) : xu (mput f m μ) m (ob 8 [.ref (m + 1), .ref (m + 2), .int (μ 2 0), .ref (m + 3), .int (v), .ref (m + 4), .int (μ 6 0), .ref (m + 5), .ref (m + 6), .ref (m + 7), .ref (m + 8), .ref (m + 9), .ref (m + 10), .ref (m + 11), .ref (m + 12), .ref (m + 13), .ref (m + 14), .ref (m + 15), .ref (m + 16), .ref (m + 17)]) = mput f m (up2 μ 4 0 v) := by
  refine (bput_xu (i := 0) (by decide)).trans (bput_congr fun i hi => ?_)
  match i, hi with
  | 0, _ => rfl
  | 1, _ => rfl
  | 2, _ => rfl
  | 3, _ => rfl
  | 4, _ => rfl
  | 5, _ => rfl
  | 6, _ => rfl
  | 7, _ => rfl
  | 8, _ => rfl
  | 9, _ => rfl
  | 10, _ => rfl
  | 11, _ => rfl
  | 12, _ => rfl
  | 13, _ => rfl
  | 14, _ => rfl
  | 15, _ => rfl
  | 16, _ => rfl
  | 17, _ => rfl
  | i + 18, h => exact absurd h (by omega)
theorem mw_6 (f : Nat → xC) (m : Nat) (μ : xS) (v : Int32) : xu (mput f m μ) m (ob 8 [.ref (m + 1), .ref (m + 2), .int (μ 2 0), .ref (m + 3), .int (μ 4 0), .ref (m + 4), .int (v), .ref (m + 5), .ref (m + 6), .ref (m + 7), .ref (m + 8), .ref (m + 9), .ref (m + 10), .ref (m + 11), .ref (m + 12), .ref (m + 13), .ref (m + 14), .ref (m + 15), .ref (m + 16), .ref (m + 17)]) = mput f m (up2 μ 6 0 v) := by
  refine (bput_xu (i := 0) (by decide)).trans (bput_congr fun i hi => ?_)
  match i, hi with
  | 0, _ => rfl
  | 1, _ => rfl
  | 2, _ => rfl
  | 3, _ => rfl
  | 4, _ => rfl
  | 5, _ => rfl
  | 6, _ => rfl
  | 7, _ => rfl
  | 8, _ => rfl
  | 9, _ => rfl
  | 10, _ => rfl
  | 11, _ => rfl
  | 12, _ => rfl
  | 13, _ => rfl
  | 14, _ => rfl
  | 15, _ => rfl
  | 16, _ => rfl
  | 17, _ => rfl
  | i + 18, h => exact absurd h (by omega)
end
section
theorem oi1 : Int32.ofInt 1 = nI 1 := by decide +kernel
theorem oi6 : Int32.ofInt 6 = nI 6 := by decide +kernel
theorem nneg {n : Nat} (h : n < 2 ^ 31) : ¬ (nI n).toInt < 0 := by rw [nt n h]; omega
def mheld (v : Int32) : Int32 := if v < (-999) then (-999) else if nI 999 < v then nI 999 else v
def mtake (μ : xS) (p : Nat) : xS := ur μ 5 (fo (fun j => μ 0 (421 * p + j)) (μ 5) 0 421)
def mlay (μ : xS) (p : Nat) : xS := ur μ 0 (fo (fun j => μ 5 j) (μ 0) (421 * p) 421)
def mshift (μ : xS) : xS := up2 (ur μ 1 (fo (fun j => μ 1 (j + 842)) (μ 1) 0 3368)) 2 0 (nI 4)
def mput1 (μ : xS) (sv : Nat) : xS := up2 (ur μ 1 (fo (fun j => μ 0 j) (μ 1) (842 * sv) 842)) 2 0 (nI (sv + 1))
def msave (μ : xS) (sv : Nat) : xS := if sv = 5 then mput1 (mshift μ) 4 else mput1 μ sv
def mback (μ : xS) (sv : Nat) : xS := ur (up2 μ 2 0 (nI sv)) 0 (fo (fun j => μ 1 (842 * sv + j)) (μ 0) 0 842)
def mswap (μ : xS) : xS := ur μ 0 (fo (fun j => μ 0 (421 + j)) (μ 0) 0 421)
def pas (t : Nat → Int32) (n a : Nat) (c : Int32) : Nat := if ch t n (skp t n a) = c then skp t n a + 1 else skp t n a
theorem pas_t {t : Nat → Int32} {n a : Nat} {c : Int32} (h : ch t n (skp t n a) = c) : pas t n a c = skp t n a + 1 := if_pos h
theorem pas_f {t : Nat → Int32} {n a : Nat} {c : Int32} (h : ¬ ch t n (skp t n a) = c) : pas t n a c = skp t n a := if_neg h
def pst (μ : xS) (n a : Nat) : Prop := μ 4 0 = nI n ∧ μ 6 0 = nI a ∧ a ≤ n ∧ n ≤ 120
theorem pst.at {μ : xS} {n a b : Nat} (h : pst μ n a) (hb : b ≤ n) : pst (up2 μ 6 0 (nI b)) n b := ⟨h.1, up2_ss _ _ _ _, hb, h.2.2.2⟩
theorem skp_le {t : Nat → Int32} {n a : Nat} (h : a ≤ n) : skp t n a ≤ n := (skp_ge t n _ a rfl).2 h
theorem ch_lt {t : Nat → Int32} {n a : Nat} (h : ¬ ch t n a = nI 0) : a < n := by
  unfold ch at h
  by_cases h2 : a < n
  · exact h2
  · rw [if_neg h2] at h; exact absurd rfl h
theorem pas_le {t : Nat → Int32} {n a : Nat} {c : Int32} (h : a ≤ n) (hc : ¬ c = nI 0) : pas t n a c ≤ n := by
  unfold pas
  have := skp_le (t := t) h
  split
  · rename_i h2
    have := ch_lt (t := t) (n := n) (a := skp t n a) (by rw [h2]; exact hc)
    omega
  · exact this
theorem s_X8_within {G : xG} {d : Nat} {f : Nat → xC} {r : Nat × Nat} {Q : Option Value → xM → Prop} {v lo hi : Int32}  (hq : Q (some (.int (b2i (lo.toInt ≤ v.toInt ∧ v.toInt ≤ hi.toInt)))) (f, r)) : xMet G d mX8_within [.int v, .int lo, .int hi] (f, r) r Q := by
  refine xMet_0 (by decide +kernel) rfl (Nat.le_of_ble_eq_true rfl) ?_
  show xX G d mX8_within r r (xΦ G r r Q) 0 [(0, .int v), (1, .int lo), (2, .int hi)] [] (f, r)
  refine xr_iload_n (n := 1) dX8_within_0 rfl rfl ?_
  refine xr_iload_n (n := 2) dX8_within_1 rfl rfl ?_
  refine xr_icmp_lt (tgt := 14) (n := 5) dX8_within_2 (by decide) rfl (fun h2 => ?_) (fun h2 => ?_)
  · refine xr_iconst (v := nI 0) (n := 15) dX8_within_14 (by decide) rfl ?_
    refine xr_ireturn dX8_within_15 rfl (by first | exact b2i_nar | exact nar_1 | exact nar_0) rfl ?_
    first | exact hq | (rw [b2i_t (by ((try simp (disch := omega) only [i_lt, i_le, i_eq, nt, i_m1, Int32.toInt_zero] at *); omega))] at hq; exact hq) | (rw [b2i_f (by ((try simp (disch := omega) only [i_lt, i_le, i_eq, nt, i_m1, Int32.toInt_zero] at *); omega))] at hq; exact hq)
  · refine xr_iload_n (n := 6) dX8_within_5 rfl rfl ?_
    refine xr_iload_n (n := 7) dX8_within_6 rfl rfl ?_
    refine xr_icmp_gt (tgt := 14) (n := 10) dX8_within_7 (by decide) rfl (fun h7 => ?_) (fun h7 => ?_)
    · refine xr_iconst (v := nI 0) (n := 15) dX8_within_14 (by decide) rfl ?_
      refine xr_ireturn dX8_within_15 rfl (by first | exact b2i_nar | exact nar_1 | exact nar_0) rfl ?_
      first | exact hq | (rw [b2i_t (by ((try simp (disch := omega) only [i_lt, i_le, i_eq, nt, i_m1, Int32.toInt_zero] at *); omega))] at hq; exact hq) | (rw [b2i_f (by ((try simp (disch := omega) only [i_lt, i_le, i_eq, nt, i_m1, Int32.toInt_zero] at *); omega))] at hq; exact hq)
    · refine xr_iconst (v := nI 1) (n := 11) dX8_within_10 (by decide) rfl ?_
      refine xr_goto (n := 15) dX8_within_11 (by decide) ?_
      refine xr_ireturn dX8_within_15 rfl (by first | exact b2i_nar | exact nar_1 | exact nar_0) rfl ?_
      first | exact hq | (rw [b2i_t (by ((try simp (disch := omega) only [i_lt, i_le, i_eq, nt, i_m1, Int32.toInt_zero] at *); omega))] at hq; exact hq) | (rw [b2i_f (by ((try simp (disch := omega) only [i_lt, i_le, i_eq, nt, i_m1, Int32.toInt_zero] at *); omega))] at hq; exact hq)

theorem s_X8_isProgram {G : xG} {d : Nat} {f : Nat → xC} {r : Nat × Nat} {Q : Option Value → xM → Prop} {p : Int32}  (hq : Q (some (.int (b2i (0 ≤ p.toInt ∧ p.toInt ≤ 1)))) (f, r)) : xMet G (d + 1) mX8_isProgram [.int p] (f, r) r Q := by
  refine xMet_0 (by decide +kernel) rfl (Nat.le_of_ble_eq_true rfl) ?_
  show xX G (d + 1) mX8_isProgram r r (xΦ G r r Q) 0 [(0, .int p)] [] (f, r)
  refine xr_iload_n (n := 1) dX8_isProgram_0 rfl rfl ?_
  refine xr_iconst (v := nI 0) (n := 2) dX8_isProgram_1 (by decide) rfl ?_
  refine xr_iconst (v := nI 1) (n := 3) dX8_isProgram_2 (by decide) rfl ?_
  refine xr_callS (y2 := mX8_within) (As := [_, _, _]) (n := 6) dX8_isProgram_3 lm_X8_61 pm_X8_within kp_static_yX8_within rfl rfl (by simp [Value.category]) rfl ⟨Nat.le_refl _, Nat.le_refl _⟩ ?_
  refine s_X8_within ?_
  dsimp only [xK, xps]
  refine xr_ireturn dX8_isProgram_6 rfl (by first | exact b2i_nar | exact nar_1 | exact nar_0) rfl ?_
  rw [b2i_iff (q := 0 ≤ p.toInt ∧ p.toInt ≤ 1) (by (simp (disch := omega) only [nt]); omega)]; exact hq

theorem s_X8_isCell {G : xG} {d : Nat} {f : Nat → xC} {r : Nat × Nat} {Q : Option Value → xM → Prop} {p : Int32}  (hq : Q (some (.int (b2i (0 ≤ p.toInt ∧ p.toInt ≤ 5)))) (f, r)) : xMet G (d + 1) mX8_isCell [.int p] (f, r) r Q := by
  refine xMet_0 (by decide +kernel) rfl (Nat.le_of_ble_eq_true rfl) ?_
  show xX G (d + 1) mX8_isCell r r (xΦ G r r Q) 0 [(0, .int p)] [] (f, r)
  refine xr_iload_n (n := 1) dX8_isCell_0 rfl rfl ?_
  refine xr_iconst (v := nI 0) (n := 2) dX8_isCell_1 (by decide) rfl ?_
  refine xr_iconst (v := nI 5) (n := 3) dX8_isCell_2 (by decide) rfl ?_
  refine xr_callS (y2 := mX8_within) (As := [_, _, _]) (n := 6) dX8_isCell_3 lm_X8_61 pm_X8_within kp_static_yX8_within rfl rfl (by simp [Value.category]) rfl ⟨Nat.le_refl _, Nat.le_refl _⟩ ?_
  refine s_X8_within ?_
  dsimp only [xK, xps]
  refine xr_ireturn dX8_isCell_6 rfl (by first | exact b2i_nar | exact nar_1 | exact nar_0) rfl ?_
  rw [b2i_iff (q := 0 ≤ p.toInt ∧ p.toInt ≤ 5) (by (simp (disch := omega) only [nt]); omega)]; exact hq

theorem s_X8_isLetter {G : xG} {d : Nat} {f : Nat → xC} {r : Nat × Nat} {Q : Option Value → xM → Prop} {p : Int32}  (hq : Q (some (.int (b2i (97 ≤ p.toInt ∧ p.toInt ≤ 102)))) (f, r)) : xMet G (d + 1) mX8_isLetter [.int p] (f, r) r Q := by
  refine xMet_0 (by decide +kernel) rfl (Nat.le_of_ble_eq_true rfl) ?_
  show xX G (d + 1) mX8_isLetter r r (xΦ G r r Q) 0 [(0, .int p)] [] (f, r)
  refine xr_iload_n (n := 1) dX8_isLetter_0 rfl rfl ?_
  refine xr_bipush (v := nI 97) (n := 3) dX8_isLetter_1 (by decide) rfl ?_
  refine xr_bipush (v := nI 102) (n := 5) dX8_isLetter_3 (by decide) rfl ?_
  refine xr_callS (y2 := mX8_within) (As := [_, _, _]) (n := 8) dX8_isLetter_5 lm_X8_61 pm_X8_within kp_static_yX8_within rfl rfl (by simp [Value.category]) rfl ⟨Nat.le_refl _, Nat.le_refl _⟩ ?_
  refine s_X8_within ?_
  dsimp only [xK, xps]
  refine xr_ireturn dX8_isLetter_8 rfl (by first | exact b2i_nar | exact nar_1 | exact nar_0) rfl ?_
  rw [b2i_iff (q := 97 ≤ p.toInt ∧ p.toInt ≤ 102) (by (simp (disch := omega) only [nt]); omega)]; exact hq

theorem s_X8_isInput {G : xG} {d : Nat} {f : Nat → xC} {r : Nat × Nat} {Q : Option Value → xM → Prop} {a b : Int32}  (hq : Q (some (.int (b2i ((-999 ≤ a.toInt ∧ a.toInt ≤ 999) ∧ (-999 ≤ b.toInt ∧ b.toInt ≤ 999))))) (f, r)) : xMet G (d + 1) mX8_isInput [.int a, .int b] (f, r) r Q := by
  refine xMet_0 (by decide +kernel) rfl (Nat.le_of_ble_eq_true rfl) ?_
  show xX G (d + 1) mX8_isInput r r (xΦ G r r Q) 0 [(0, .int a), (1, .int b)] [] (f, r)
  refine xr_iload_n (n := 1) dX8_isInput_0 rfl rfl ?_
  refine xr_sipush (v := (-999)) (n := 4) dX8_isInput_1 (by decide) rfl ?_
  refine xr_sipush (v := nI 999) (n := 7) dX8_isInput_4 (by decide) rfl ?_
  refine xr_callS (y2 := mX8_within) (As := [_, _, _]) (n := 10) dX8_isInput_7 lm_X8_61 pm_X8_within kp_static_yX8_within rfl rfl (by simp [Value.category]) rfl ⟨Nat.le_refl _, Nat.le_refl _⟩ ?_
  refine s_X8_within ?_
  dsimp only [xK, xps]
  refine xr_beq (tgt := 30) (n := 13) dX8_isInput_10 (by decide) rfl (fun h10 => ?_) (fun h10 => ?_)
  · refine xr_iconst (v := nI 0) (n := 31) dX8_isInput_30 (by decide) rfl ?_
    refine xr_ireturn dX8_isInput_31 rfl (by first | exact b2i_nar | exact nar_1 | exact nar_0) rfl ?_
    have e1 : (-999 : Int32).toInt = -999 := by decide +kernel
    first | (rw [b2i_t (by (simp (disch := omega) only [nt] at *); omega)] at hq; exact hq) | (rw [b2i_f (by (simp (disch := omega) only [nt] at *); omega)] at hq; exact hq)
  · refine xr_iload_n (n := 14) dX8_isInput_13 rfl rfl ?_
    refine xr_sipush (v := (-999)) (n := 17) dX8_isInput_14 (by decide) rfl ?_
    refine xr_sipush (v := nI 999) (n := 20) dX8_isInput_17 (by decide) rfl ?_
    refine xr_callS (y2 := mX8_within) (As := [_, _, _]) (n := 23) dX8_isInput_20 lm_X8_61 pm_X8_within kp_static_yX8_within rfl rfl (by simp [Value.category]) rfl ⟨Nat.le_refl _, Nat.le_refl _⟩ ?_
    refine s_X8_within ?_
    dsimp only [xK, xps]
    refine xr_beq (tgt := 30) (n := 26) dX8_isInput_23 (by decide) rfl (fun h23 => ?_) (fun h23 => ?_)
    · refine xr_iconst (v := nI 0) (n := 31) dX8_isInput_30 (by decide) rfl ?_
      refine xr_ireturn dX8_isInput_31 rfl (by first | exact b2i_nar | exact nar_1 | exact nar_0) rfl ?_
      have e1 : (-999 : Int32).toInt = -999 := by decide +kernel
      first | (rw [b2i_t (by (simp (disch := omega) only [nt] at *); omega)] at hq; exact hq) | (rw [b2i_f (by (simp (disch := omega) only [nt] at *); omega)] at hq; exact hq)
    · refine xr_iconst (v := nI 1) (n := 27) dX8_isInput_26 (by decide) rfl ?_
      refine xr_goto (n := 31) dX8_isInput_27 (by decide) ?_
      refine xr_ireturn dX8_isInput_31 rfl (by first | exact b2i_nar | exact nar_1 | exact nar_0) rfl ?_
      have e1 : (-999 : Int32).toInt = -999 := by decide +kernel
      first | (rw [b2i_t (by (simp (disch := omega) only [nt] at *); omega)] at hq; exact hq) | (rw [b2i_f (by (simp (disch := omega) only [nt] at *); omega)] at hq; exact hq)

theorem s_X8_held {G : xG} {d : Nat} {f : Nat → xC} {r : Nat × Nat} {Q : Option Value → xM → Prop} {v : Int32}  (hq : Q (some (.int (mheld v))) (f, r)) : xMet G d mX8_held [.int v] (f, r) r Q := by
  refine xMet_0 (by decide +kernel) rfl (Nat.le_of_ble_eq_true rfl) ?_
  show xX G d mX8_held r r (xΦ G r r Q) 0 [(0, .int v)] [] (f, r)
  refine xr_iload_n (n := 1) dX8_held_0 rfl rfl ?_
  refine xr_sipush (v := (-999)) (n := 4) dX8_held_1 (by decide) rfl ?_
  refine xr_icmp_ge (tgt := 13) (n := 7) dX8_held_4 (by decide) rfl (fun h4 => ?_) (fun h4 => ?_)
  · refine xr_iload_n (n := 14) dX8_held_13 rfl rfl ?_
    refine xr_sipush (v := nI 999) (n := 17) dX8_held_14 (by decide) rfl ?_
    refine xr_icmp_le (tgt := 26) (n := 20) dX8_held_17 (by decide) rfl (fun h17 => ?_) (fun h17 => ?_)
    · refine xr_iload_n (n := 27) dX8_held_26 rfl rfl ?_
      refine xr_ireturn dX8_held_27 rfl rfl rfl ?_
      refine qi hq ?_
      unfold mheld
      first | rw [if_pos (by ((try simp (disch := omega) only [i_lt, i_le, i_eq, nt, i_m1, Int32.toInt_zero] at *); omega))] | rw [if_neg (by ((try simp (disch := omega) only [i_lt, i_le, i_eq, nt, i_m1, Int32.toInt_zero] at *); omega)), if_pos (by ((try simp (disch := omega) only [i_lt, i_le, i_eq, nt, i_m1, Int32.toInt_zero] at *); omega))] | rw [if_neg (by ((try simp (disch := omega) only [i_lt, i_le, i_eq, nt, i_m1, Int32.toInt_zero] at *); omega)), if_neg (by ((try simp (disch := omega) only [i_lt, i_le, i_eq, nt, i_m1, Int32.toInt_zero] at *); omega))]
    · refine xr_sipush (v := nI 999) (n := 23) dX8_held_20 (by decide) rfl ?_
      refine xr_goto (n := 27) dX8_held_23 (by decide) ?_
      refine xr_ireturn dX8_held_27 rfl rfl rfl ?_
      refine qi hq ?_
      unfold mheld
      first | rw [if_pos (by ((try simp (disch := omega) only [i_lt, i_le, i_eq, nt, i_m1, Int32.toInt_zero] at *); omega))] | rw [if_neg (by ((try simp (disch := omega) only [i_lt, i_le, i_eq, nt, i_m1, Int32.toInt_zero] at *); omega)), if_pos (by ((try simp (disch := omega) only [i_lt, i_le, i_eq, nt, i_m1, Int32.toInt_zero] at *); omega))] | rw [if_neg (by ((try simp (disch := omega) only [i_lt, i_le, i_eq, nt, i_m1, Int32.toInt_zero] at *); omega)), if_neg (by ((try simp (disch := omega) only [i_lt, i_le, i_eq, nt, i_m1, Int32.toInt_zero] at *); omega))]
  · refine xr_sipush (v := (-999)) (n := 10) dX8_held_7 (by decide) rfl ?_
    refine xr_goto (n := 27) dX8_held_10 (by decide) ?_
    refine xr_ireturn dX8_held_27 rfl rfl rfl ?_
    refine qi hq ?_
    unfold mheld
    first | rw [if_pos (by ((try simp (disch := omega) only [i_lt, i_le, i_eq, nt, i_m1, Int32.toInt_zero] at *); omega))] | rw [if_neg (by ((try simp (disch := omega) only [i_lt, i_le, i_eq, nt, i_m1, Int32.toInt_zero] at *); omega)), if_pos (by ((try simp (disch := omega) only [i_lt, i_le, i_eq, nt, i_m1, Int32.toInt_zero] at *); omega))] | rw [if_neg (by ((try simp (disch := omega) only [i_lt, i_le, i_eq, nt, i_m1, Int32.toInt_zero] at *); omega)), if_neg (by ((try simp (disch := omega) only [i_lt, i_le, i_eq, nt, i_m1, Int32.toInt_zero] at *); omega))]

theorem s_X8_least {G : xG} {d : Nat} {f : Nat → xC} {r : Nat × Nat} {Q : Option Value → xM → Prop} {a b : Int32}  (hq : Q (some (.int (if a < b then a else b))) (f, r)) : xMet G d mX8_least [.int a, .int b] (f, r) r Q := by
  refine xMet_0 (by decide +kernel) rfl (Nat.le_of_ble_eq_true rfl) ?_
  show xX G d mX8_least r r (xΦ G r r Q) 0 [(0, .int a), (1, .int b)] [] (f, r)
  refine xr_iload_n (n := 1) dX8_least_0 rfl rfl ?_
  refine xr_iload_n (n := 2) dX8_least_1 rfl rfl ?_
  refine xr_icmp_ge (tgt := 9) (n := 5) dX8_least_2 (by decide) rfl (fun h2 => ?_) (fun h2 => ?_)
  · refine xr_iload_n (n := 10) dX8_least_9 rfl rfl ?_
    refine xr_ireturn dX8_least_10 rfl rfl rfl ?_
    refine qi hq ?_
    first | rw [if_pos (by ((try simp (disch := omega) only [i_lt, i_le, i_eq, nt, i_m1, Int32.toInt_zero] at *); omega))] | rw [if_neg (by ((try simp (disch := omega) only [i_lt, i_le, i_eq, nt, i_m1, Int32.toInt_zero] at *); omega))]
  · refine xr_iload_n (n := 6) dX8_least_5 rfl rfl ?_
    refine xr_goto (n := 10) dX8_least_6 (by decide) ?_
    refine xr_ireturn dX8_least_10 rfl rfl rfl ?_
    refine qi hq ?_
    first | rw [if_pos (by ((try simp (disch := omega) only [i_lt, i_le, i_eq, nt, i_m1, Int32.toInt_zero] at *); omega))] | rw [if_neg (by ((try simp (disch := omega) only [i_lt, i_le, i_eq, nt, i_m1, Int32.toInt_zero] at *); omega))]

theorem s_X8_of {G : xG} {d : Nat} {f : Nat → xC} {r : Nat × Nat} {Q : Option Value → xM → Prop} {m : Nat} {μ : xS} {s w : Nat} (hs : s < 60) (hw : w < 7) (hq : Q (some (.int (μ 5 (1 + 7 * s + w)))) (mput f m μ, r)) : xMet G d mX8_of [.ref m, .int (nI s), .int (nI w)] (mput f m μ, r) r Q := by
  refine xMet_0 (by decide +kernel) rfl (Nat.le_of_ble_eq_true rfl) ?_
  show xX G d mX8_of r r (xΦ G r r Q) 0 [(0, .ref m), (1, .int (nI s)), (2, .int (nI w))] [] (mput f m μ, r)
  refine xr_aload_n (n := 1) dX8_of_0 rfl rfl ?_
  refine xr_get (n := 4) dX8_of_1 fl_X8_19 (by first | exact mput_0 _ _ _ | exact mput_r (by decide)) (by rfl) rfl ?_
  refine xr_iconst (v := nI 1) (n := 5) dX8_of_4 (by decide) rfl ?_
  refine xr_bipush (v := nI 7) (n := 7) dX8_of_5 (by decide) rfl ?_
  refine xr_iload_n (n := 8) dX8_of_7 rfl rfl ?_
  refine xr_imul (n := 9) dX8_of_8 rfl ?_
  try simp (disch := omega) only [nI_clamp, pk_mul, nI_add, oi1, up2_a, ur_a, Nat.reduceEqDiff, Nat.reduceMul, Nat.reduceAdd, reduceIte, if_pos, if_neg]
  refine xr_iadd (n := 10) dX8_of_9 rfl ?_
  try simp (disch := omega) only [nI_clamp, pk_mul, nI_add, oi1, up2_a, ur_a, Nat.reduceEqDiff, Nat.reduceMul, Nat.reduceAdd, reduceIte, if_pos, if_neg]
  refine xr_iload_n (n := 11) dX8_of_10 rfl rfl ?_
  refine xr_iadd (n := 12) dX8_of_11 rfl ?_
  try simp (disch := omega) only [nI_clamp, pk_mul, nI_add, oi1, up2_a, ur_a, Nat.reduceEqDiff, Nat.reduceMul, Nat.reduceAdd, reduceIte, if_pos, if_neg]
  refine xr_iaload (n := 13) dX8_of_12 (by first | exact mput_0 _ _ _ | exact mput_r (by decide)) (by first | exact vp_in_nI (by omega) (by omega)) rfl ?_
  try simp (disch := omega) only [nI_clamp, pk_mul, nI_add, oi1, up2_a, ur_a, Nat.reduceEqDiff, Nat.reduceMul, Nat.reduceAdd, reduceIte, if_pos, if_neg]
  refine xr_ireturn dX8_of_13 rfl rfl rfl ?_
  first | exact hq | (rw [b2i_t (by ((try simp (disch := omega) only [i_lt, i_le, i_eq, nt, i_m1, Int32.toInt_zero] at *); omega))] at hq; exact hq) | (rw [b2i_f (by ((try simp (disch := omega) only [i_lt, i_le, i_eq, nt, i_m1, Int32.toInt_zero] at *); omega))] at hq; exact hq)

theorem s_X8_put {G : xG} {d : Nat} {f : Nat → xC} {r : Nat × Nat} {Q : Option Value → xM → Prop} {m : Nat} {μ : xS} {s w : Nat} {v : Int32} (hs : s < 60) (hw : w < 7) (hq : Q none (mput f m (up2 μ 5 (1 + 7 * s + w) v), r)) : xMet G d mX8_put [.ref m, .int (nI s), .int (nI w), .int v] (mput f m μ, r) r Q := by
  refine xMet_0 (by decide +kernel) rfl (Nat.le_of_ble_eq_true rfl) ?_
  show xX G d mX8_put r r (xΦ G r r Q) 0 [(0, .ref m), (1, .int (nI s)), (2, .int (nI w)), (3, .int v)] [] (mput f m μ, r)
  refine xr_aload_n (n := 1) dX8_put_0 rfl rfl ?_
  refine xr_get (n := 4) dX8_put_1 fl_X8_19 (by first | exact mput_0 _ _ _ | exact mput_r (by decide)) (by rfl) rfl ?_
  refine xr_iconst (v := nI 1) (n := 5) dX8_put_4 (by decide) rfl ?_
  refine xr_bipush (v := nI 7) (n := 7) dX8_put_5 (by decide) rfl ?_
  refine xr_iload_n (n := 8) dX8_put_7 rfl rfl ?_
  refine xr_imul (n := 9) dX8_put_8 rfl ?_
  try simp (disch := omega) only [nI_clamp, pk_mul, nI_add, oi1, up2_a, ur_a, Nat.reduceEqDiff, Nat.reduceMul, Nat.reduceAdd, reduceIte, if_pos, if_neg]
  refine xr_iadd (n := 10) dX8_put_9 rfl ?_
  try simp (disch := omega) only [nI_clamp, pk_mul, nI_add, oi1, up2_a, ur_a, Nat.reduceEqDiff, Nat.reduceMul, Nat.reduceAdd, reduceIte, if_pos, if_neg]
  refine xr_iload_n (n := 11) dX8_put_10 rfl rfl ?_
  refine xr_iadd (n := 12) dX8_put_11 rfl ?_
  try simp (disch := omega) only [nI_clamp, pk_mul, nI_add, oi1, up2_a, ur_a, Nat.reduceEqDiff, Nat.reduceMul, Nat.reduceAdd, reduceIte, if_pos, if_neg]
  refine xr_iload_n (n := 13) dX8_put_12 rfl rfl ?_
  refine xq_iastore (n := 14) dX8_put_13 (by first | exact mput_0 _ _ _ | exact mput_r (by decide)) (by first | exact vp_in_nI (by omega) (by omega)) rfl ?_
  simp (disch := omega) only [nI_clamp, List.set, mw_0, mw_1, mw_2, mw_3, mw_4, mw_5, mw_6, mw_7, mw_8, mw_9, mw_10, mw_11, mw_12, mw_13, mw_14, mw_15, mw_16, mw_17, mw_18, mw_19]
  refine xr_return dX8_put_14 rfl rfl ?_
  first | exact hq | (rw [b2i_t (by ((try simp (disch := omega) only [i_lt, i_le, i_eq, nt, i_m1, Int32.toInt_zero] at *); omega))] at hq; exact hq) | (rw [b2i_f (by ((try simp (disch := omega) only [i_lt, i_le, i_eq, nt, i_m1, Int32.toInt_zero] at *); omega))] at hq; exact hq)

theorem s_X8_takes {G : xG} {d : Nat} {f : Nat → xC} {r : Nat × Nat} {Q : Option Value → xM → Prop} {m : Nat} {μ : xS} {p : Nat} (hp : p ≤ 1) (hq : Q none (mput f m (mtake μ p), r)) : xMet G d mX8_takes [.ref m, .int (nI p)] (mput f m μ, r) r Q := by
  refine xMet_0 (by decide +kernel) rfl (Nat.le_of_ble_eq_true rfl) ?_
  show xX G d mX8_takes r r (xΦ G r r Q) 0 [(0, .ref m), (1, .int (nI p))] [] (mput f m μ, r)
  refine xr_iconst (v := nI 0) (n := 1) dX8_takes_0 (by decide) rfl ?_
  refine xr_istore_n (n := 2) dX8_takes_1 rfl rfl ?_
  dsimp only [xst, Nat.beq, List.filter, Bool.not_true, Bool.not_false]
  rw [show mput f m μ = mput f m (ur μ 5 (fo (fun j => μ 0 (421 * p + j)) (μ 5) 0 0)) from by rw [ur_fo0]]
  refine nat_down (P := fun k => xX G d mX8_takes r r (xΦ G r r Q) 2 [(0, .ref m), (1, .int (nI p)), (2, .int (nI k))] [] (mput f m (ur μ 5 (fo (fun j => μ 0 (421 * p + j)) (μ 5) 0 k)), r)) (N := 421) ?_ ?_ 0 (by omega)
  · refine xr_iload_n (n := 3) dX8_takes_2 rfl rfl ?_
    refine xr_sipush (v := nI 421) (n := 6) dX8_takes_3 (by decide) rfl ?_
    refine xr_icmp_ge (tgt := 33) (n := 9) dX8_takes_6 (by decide) rfl (fun h6 => ?_) (fun h6 => by (exfalso; ((try simp (disch := omega) only [i_lt, i_le, i_eq, nt, i_m1, Int32.toInt_zero] at *); omega)))
    refine xr_return dX8_takes_33 rfl rfl ?_
    exact hq
  · intro k hk ih
    refine xr_iload_n (n := 3) dX8_takes_2 rfl rfl ?_
    refine xr_sipush (v := nI 421) (n := 6) dX8_takes_3 (by decide) rfl ?_
    refine xr_icmp_ge (tgt := 33) (n := 9) dX8_takes_6 (by decide) rfl (fun h6 => by (exfalso; ((try simp (disch := omega) only [i_lt, i_le, i_eq, nt, i_m1, Int32.toInt_zero] at *); omega))) (fun h6 => ?_)
    refine xr_aload_n (n := 10) dX8_takes_9 rfl rfl ?_
    refine xr_get (n := 13) dX8_takes_10 fl_X8_19 (by first | exact mput_0 _ _ _ | exact mput_r (by decide)) (by rfl) rfl ?_
    refine xr_iload_n (n := 14) dX8_takes_13 rfl rfl ?_
    refine xr_aload_n (n := 15) dX8_takes_14 rfl rfl ?_
    refine xr_get (n := 18) dX8_takes_15 fl_X8_7 (by first | exact mput_0 _ _ _ | exact mput_r (by decide)) (by rfl) rfl ?_
    refine xr_sipush (v := nI 421) (n := 21) dX8_takes_18 (by decide) rfl ?_
    refine xr_iload_n (n := 22) dX8_takes_21 rfl rfl ?_
    refine xr_imul (n := 23) dX8_takes_22 rfl ?_
    try simp (disch := omega) only [nI_clamp, pk_mul, nI_add, oi1, up2_a, ur_a, Nat.reduceEqDiff, Nat.reduceMul, Nat.reduceAdd, reduceIte, if_pos, if_neg, fo_a]
    refine xr_iload_n (n := 24) dX8_takes_23 rfl rfl ?_
    refine xr_iadd (n := 25) dX8_takes_24 rfl ?_
    try simp (disch := omega) only [nI_clamp, pk_mul, nI_add, oi1, up2_a, ur_a, Nat.reduceEqDiff, Nat.reduceMul, Nat.reduceAdd, reduceIte, if_pos, if_neg, fo_a]
    refine xr_iaload (n := 26) dX8_takes_25 (by first | exact mput_0 _ _ _ | exact mput_r (by decide)) (by first | exact vp_in_nI (by omega) (by omega)) rfl ?_
    try simp (disch := omega) only [nI_clamp, pk_mul, nI_add, oi1, up2_a, ur_a, Nat.reduceEqDiff, Nat.reduceMul, Nat.reduceAdd, reduceIte, if_pos, if_neg, fo_a]
    refine xq_iastore (n := 27) dX8_takes_26 (by first | exact mput_0 _ _ _ | exact mput_r (by decide)) (by first | exact vp_in_nI (by omega) (by omega)) rfl ?_
    simp (disch := omega) only [nI_clamp, List.set, mw_0, mw_1, mw_2, mw_3, mw_4, mw_5, mw_6, mw_7, mw_8, mw_9, mw_10, mw_11, mw_12, mw_13, mw_14, mw_15, mw_16, mw_17, mw_18, mw_19]
    refine xr_iinc (n := 30) dX8_takes_27 rfl rfl (rfl) rfl ?_
    dsimp only [xst, Nat.beq, List.filter, Bool.not_true, Bool.not_false]
    try simp (disch := omega) only [nI_clamp, pk_mul, nI_add, oi1, up2_a, ur_a, Nat.reduceEqDiff, Nat.reduceMul, Nat.reduceAdd, reduceIte, if_pos, if_neg, fo_a]
    refine xr_goto (n := 2) dX8_takes_30 (by decide) ?_
    refine xX.eq rfl rfl rfl ?_ ih
    rw [← ur_fo (v := μ 0 (421 * p + k)) (by first | rfl | (rw [fo_out (by omega)]))]
    rw [Nat.zero_add]

theorem s_X8_lays {G : xG} {d : Nat} {f : Nat → xC} {r : Nat × Nat} {Q : Option Value → xM → Prop} {m : Nat} {μ : xS} {p : Nat} (hp : p ≤ 1) (hq : Q none (mput f m (mlay μ p), r)) : xMet G d mX8_lays [.ref m, .int (nI p)] (mput f m μ, r) r Q := by
  refine xMet_0 (by decide +kernel) rfl (Nat.le_of_ble_eq_true rfl) ?_
  show xX G d mX8_lays r r (xΦ G r r Q) 0 [(0, .ref m), (1, .int (nI p))] [] (mput f m μ, r)
  refine xr_iconst (v := nI 0) (n := 1) dX8_lays_0 (by decide) rfl ?_
  refine xr_istore_n (n := 2) dX8_lays_1 rfl rfl ?_
  dsimp only [xst, Nat.beq, List.filter, Bool.not_true, Bool.not_false]
  rw [show mput f m μ = mput f m (ur μ 0 (fo (fun j => μ 5 j) (μ 0) (421 * p) 0)) from by rw [ur_fo0]]
  refine nat_down (P := fun k => xX G d mX8_lays r r (xΦ G r r Q) 2 [(0, .ref m), (1, .int (nI p)), (2, .int (nI k))] [] (mput f m (ur μ 0 (fo (fun j => μ 5 j) (μ 0) (421 * p) k)), r)) (N := 421) ?_ ?_ 0 (by omega)
  · refine xr_iload_n (n := 3) dX8_lays_2 rfl rfl ?_
    refine xr_sipush (v := nI 421) (n := 6) dX8_lays_3 (by decide) rfl ?_
    refine xr_icmp_ge (tgt := 33) (n := 9) dX8_lays_6 (by decide) rfl (fun h6 => ?_) (fun h6 => by (exfalso; ((try simp (disch := omega) only [i_lt, i_le, i_eq, nt, i_m1, Int32.toInt_zero] at *); omega)))
    refine xr_return dX8_lays_33 rfl rfl ?_
    exact hq
  · intro k hk ih
    refine xr_iload_n (n := 3) dX8_lays_2 rfl rfl ?_
    refine xr_sipush (v := nI 421) (n := 6) dX8_lays_3 (by decide) rfl ?_
    refine xr_icmp_ge (tgt := 33) (n := 9) dX8_lays_6 (by decide) rfl (fun h6 => by (exfalso; ((try simp (disch := omega) only [i_lt, i_le, i_eq, nt, i_m1, Int32.toInt_zero] at *); omega))) (fun h6 => ?_)
    refine xr_aload_n (n := 10) dX8_lays_9 rfl rfl ?_
    refine xr_get (n := 13) dX8_lays_10 fl_X8_7 (by first | exact mput_0 _ _ _ | exact mput_r (by decide)) (by rfl) rfl ?_
    refine xr_sipush (v := nI 421) (n := 16) dX8_lays_13 (by decide) rfl ?_
    refine xr_iload_n (n := 17) dX8_lays_16 rfl rfl ?_
    refine xr_imul (n := 18) dX8_lays_17 rfl ?_
    try simp (disch := omega) only [nI_clamp, pk_mul, nI_add, oi1, up2_a, ur_a, Nat.reduceEqDiff, Nat.reduceMul, Nat.reduceAdd, reduceIte, if_pos, if_neg, fo_a]
    refine xr_iload_n (n := 19) dX8_lays_18 rfl rfl ?_
    refine xr_iadd (n := 20) dX8_lays_19 rfl ?_
    try simp (disch := omega) only [nI_clamp, pk_mul, nI_add, oi1, up2_a, ur_a, Nat.reduceEqDiff, Nat.reduceMul, Nat.reduceAdd, reduceIte, if_pos, if_neg, fo_a]
    refine xr_aload_n (n := 21) dX8_lays_20 rfl rfl ?_
    refine xr_get (n := 24) dX8_lays_21 fl_X8_19 (by first | exact mput_0 _ _ _ | exact mput_r (by decide)) (by rfl) rfl ?_
    refine xr_iload_n (n := 25) dX8_lays_24 rfl rfl ?_
    refine xr_iaload (n := 26) dX8_lays_25 (by first | exact mput_0 _ _ _ | exact mput_r (by decide)) (by first | exact vp_in_nI (by omega) (by omega)) rfl ?_
    try simp (disch := omega) only [nI_clamp, pk_mul, nI_add, oi1, up2_a, ur_a, Nat.reduceEqDiff, Nat.reduceMul, Nat.reduceAdd, reduceIte, if_pos, if_neg, fo_a]
    refine xq_iastore (n := 27) dX8_lays_26 (by first | exact mput_0 _ _ _ | exact mput_r (by decide)) (by first | exact vp_in_nI (by omega) (by omega)) rfl ?_
    simp (disch := omega) only [nI_clamp, List.set, mw_0, mw_1, mw_2, mw_3, mw_4, mw_5, mw_6, mw_7, mw_8, mw_9, mw_10, mw_11, mw_12, mw_13, mw_14, mw_15, mw_16, mw_17, mw_18, mw_19]
    refine xr_iinc (n := 30) dX8_lays_27 rfl rfl (rfl) rfl ?_
    dsimp only [xst, Nat.beq, List.filter, Bool.not_true, Bool.not_false]
    try simp (disch := omega) only [nI_clamp, pk_mul, nI_add, oi1, up2_a, ur_a, Nat.reduceEqDiff, Nat.reduceMul, Nat.reduceAdd, reduceIte, if_pos, if_neg, fo_a]
    refine xr_goto (n := 2) dX8_lays_30 (by decide) ?_
    refine xX.eq rfl rfl rfl ?_ ih
    rw [← ur_fo (v := μ 5 (k)) (by first | rfl | (rw [fo_out (by omega)]))]

theorem s_X8_append {G : xG} {d : Nat} {f : Nat → xC} {r : Nat × Nat} {Q : Option Value → xM → Prop} {m : Nat} {μ : xS} {c : Int32} {n : Nat} (hn : μ 4 0 = nI n) (hn2 : n ≤ 120) (hq1 : ¬ (1 ≤ c.toInt ∧ c.toInt ≤ 255) → Q (some (.int (-10001))) (mput f m μ, r)) (hq2 : (1 ≤ c.toInt ∧ c.toInt ≤ 255) → n = 120 → Q (some (.int (-10003))) (mput f m μ, r)) (hq3 : (1 ≤ c.toInt ∧ c.toInt ≤ 255) → n < 120 → Q (some (.int (nI (n + 1)))) (mput f m (up2 (up2 μ 3 n c) 4 0 (nI (n + 1))), r)) : xMet G (d + 1) mX8_append [.ref m, .int c] (mput f m μ, r) r Q := by
  refine xMet_0 (by decide +kernel) rfl (Nat.le_of_ble_eq_true rfl) ?_
  show xX G (d + 1) mX8_append r r (xΦ G r r Q) 0 [(0, .ref m), (1, .int c)] [] (mput f m μ, r)
  refine xr_iload_n (n := 1) dX8_append_0 rfl rfl ?_
  refine xr_iconst (v := nI 1) (n := 2) dX8_append_1 (by decide) rfl ?_
  refine xr_sipush (v := nI 255) (n := 5) dX8_append_2 (by decide) rfl ?_
  refine xr_callS (y2 := mX8_within) (As := [_, _, _]) (n := 8) dX8_append_5 lm_X8_61 pm_X8_within kp_static_yX8_within rfl rfl (by simp [Value.category]) rfl ⟨Nat.le_refl _, Nat.le_refl _⟩ ?_
  refine s_X8_within ?_
  dsimp only [xK, xps]
  rw [b2i_iff (q := 1 ≤ c.toInt ∧ c.toInt ≤ 255) (by (simp (disch := omega) only [nt]); omega)]
  refine xr_bne (tgt := 15) (n := 11) dX8_append_8 (by decide) rfl (fun h8 => ?_) (fun h8 => ?_)
  · refine xr_aload_n (n := 16) dX8_append_15 rfl rfl ?_
    refine xr_get (n := 19) dX8_append_16 fl_X8_69 (by first | exact mput_0 _ _ _ | exact mput_r (by decide)) (by rfl) rfl ?_
    try simp (disch := omega) only [nI_clamp, pk_mul, nI_add, oi1, up2_a, ur_a, Nat.reduceEqDiff, Nat.reduceMul, Nat.reduceAdd, reduceIte, if_pos, if_neg, hn]
    refine xr_bipush (v := nI 120) (n := 21) dX8_append_19 (by decide) rfl ?_
    refine xr_icmp_ne (tgt := 28) (n := 24) dX8_append_21 (by decide) rfl (fun h21 => ?_) (fun h21 => ?_)
    · have hlt : n < 120 := by ((try simp (disch := omega) only [i_lt, i_le, i_eq, nt, i_m1, Int32.toInt_zero] at *); omega)
      refine xr_aload_n (n := 29) dX8_append_28 rfl rfl ?_
      refine xr_get (n := 32) dX8_append_29 fl_X8_16 (by first | exact mput_0 _ _ _ | exact mput_r (by decide)) (by rfl) rfl ?_
      refine xr_aload_n (n := 33) dX8_append_32 rfl rfl ?_
      refine xr_get (n := 36) dX8_append_33 fl_X8_69 (by first | exact mput_0 _ _ _ | exact mput_r (by decide)) (by rfl) rfl ?_
      try simp (disch := omega) only [nI_clamp, pk_mul, nI_add, oi1, up2_a, ur_a, Nat.reduceEqDiff, Nat.reduceMul, Nat.reduceAdd, reduceIte, if_pos, if_neg, hn]
      refine xr_iload_n (n := 37) dX8_append_36 rfl rfl ?_
      refine xq_iastore (n := 38) dX8_append_37 (by first | exact mput_0 _ _ _ | exact mput_r (by decide)) (by first | exact vp_in_nI (by omega) (by omega)) rfl ?_
      simp (disch := omega) only [nI_clamp, List.set, mw_0, mw_1, mw_2, mw_3, mw_4, mw_5, mw_6, mw_7, mw_8, mw_9, mw_10, mw_11, mw_12, mw_13, mw_14, mw_15, mw_16, mw_17, mw_18, mw_19]
      refine xr_aload_n (n := 39) dX8_append_38 rfl rfl ?_
      refine xr_dup (n := 40) dX8_append_39 rfl rfl ?_
      refine xr_get (n := 43) dX8_append_40 fl_X8_69 (by first | exact mput_0 _ _ _ | exact mput_r (by decide)) (by rfl) rfl ?_
      try simp (disch := omega) only [nI_clamp, pk_mul, nI_add, oi1, up2_a, ur_a, Nat.reduceEqDiff, Nat.reduceMul, Nat.reduceAdd, reduceIte, if_pos, if_neg, hn]
      refine xr_iconst (v := nI 1) (n := 44) dX8_append_43 (by decide) rfl ?_
      refine xr_iadd (n := 45) dX8_append_44 rfl ?_
      try simp (disch := omega) only [nI_clamp, pk_mul, nI_add, oi1, up2_a, ur_a, Nat.reduceEqDiff, Nat.reduceMul, Nat.reduceAdd, reduceIte, if_pos, if_neg, hn]
      refine xq_put (n := 48) dX8_append_45 fl_X8_69 rfl (by first | exact mput_0 _ _ _ | exact mput_r (by decide)) (by rfl) (by rfl) (by rfl) rfl ?_
      simp (disch := omega) only [nI_clamp, List.set, mw_0, mw_1, mw_2, mw_3, mw_4, mw_5, mw_6, mw_7, mw_8, mw_9, mw_10, mw_11, mw_12, mw_13, mw_14, mw_15, mw_16, mw_17, mw_18, mw_19]
      refine xr_aload_n (n := 49) dX8_append_48 rfl rfl ?_
      refine xr_get (n := 52) dX8_append_49 fl_X8_69 (by first | exact mput_0 _ _ _ | exact mput_r (by decide)) (by rfl) rfl ?_
      try simp (disch := omega) only [nI_clamp, pk_mul, nI_add, oi1, up2_a, ur_a, Nat.reduceEqDiff, Nat.reduceMul, Nat.reduceAdd, reduceIte, if_pos, if_neg, hn]
      refine xr_ireturn dX8_append_52 rfl rfl rfl ?_
      exact hq3 h8 (by ((try simp (disch := omega) only [i_lt, i_le, i_eq, nt, i_m1, Int32.toInt_zero] at *); omega))
    · refine xr_sipush (v := (-10003)) (n := 27) dX8_append_24 (by decide) rfl ?_
      refine xr_ireturn dX8_append_27 rfl rfl rfl ?_
      exact hq2 h8 (by ((try simp (disch := omega) only [i_lt, i_le, i_eq, nt, i_m1, Int32.toInt_zero] at *); omega))
  · refine xr_sipush (v := (-10001)) (n := 14) dX8_append_11 (by decide) rfl ?_
    refine xr_ireturn dX8_append_14 rfl rfl rfl ?_
    exact hq1 h8

theorem s_X8_clearText {G : xG} {d : Nat} {f : Nat → xC} {r : Nat × Nat} {Q : Option Value → xM → Prop} {m : Nat} {μ : xS}   (hq : Q (some (.int (μ 4 0))) (mput f m (up2 μ 4 0 (nI 0)), r)) : xMet G d mX8_clearText [.ref m] (mput f m μ, r) r Q := by
  refine xMet_0 (by decide +kernel) rfl (Nat.le_of_ble_eq_true rfl) ?_
  show xX G d mX8_clearText r r (xΦ G r r Q) 0 [(0, .ref m)] [] (mput f m μ, r)
  refine xr_aload_n (n := 1) dX8_clearText_0 rfl rfl ?_
  refine xr_get (n := 4) dX8_clearText_1 fl_X8_69 (by first | exact mput_0 _ _ _ | exact mput_r (by decide)) (by rfl) rfl ?_
  try simp (disch := omega) only [nI_clamp, pk_mul, nI_add, oi1, up2_a, ur_a, Nat.reduceEqDiff, Nat.reduceMul, Nat.reduceAdd, reduceIte, if_pos, if_neg]
  refine xr_istore_n (n := 5) dX8_clearText_4 rfl rfl ?_
  dsimp only [xst, Nat.beq, List.filter, Bool.not_true, Bool.not_false]
  refine xr_aload_n (n := 6) dX8_clearText_5 rfl rfl ?_
  refine xr_iconst (v := nI 0) (n := 7) dX8_clearText_6 (by decide) rfl ?_
  refine xq_put (n := 10) dX8_clearText_7 fl_X8_69 rfl (by first | exact mput_0 _ _ _ | exact mput_r (by decide)) (by rfl) (by rfl) (by rfl) rfl ?_
  simp (disch := omega) only [nI_clamp, List.set, mw_0, mw_1, mw_2, mw_3, mw_4, mw_5, mw_6, mw_7, mw_8, mw_9, mw_10, mw_11, mw_12, mw_13, mw_14, mw_15, mw_16, mw_17, mw_18, mw_19]
  refine xr_iload_n (n := 11) dX8_clearText_10 rfl rfl ?_
  refine xr_ireturn dX8_clearText_11 rfl rfl rfl ?_
  first | exact hq | (rw [b2i_t (by ((try simp (disch := omega) only [i_lt, i_le, i_eq, nt, i_m1, Int32.toInt_zero] at *); omega))] at hq; exact hq) | (rw [b2i_f (by ((try simp (disch := omega) only [i_lt, i_le, i_eq, nt, i_m1, Int32.toInt_zero] at *); omega))] at hq; exact hq)

theorem s_X8_leadOf {G : xG} {d : Nat} {f : Nat → xC} {r : Nat × Nat} {Q : Option Value → xM → Prop} {m : Nat} {μ : xS} {k : Nat} (hk : k < 40) (hq : Q (some (.int (μ 11 k - μ 11 (40 + k)))) (mput f m μ, r)) : xMet G d mX8_leadOf [.ref m, .int (nI k)] (mput f m μ, r) r Q := by
  refine xMet_0 (by decide +kernel) rfl (Nat.le_of_ble_eq_true rfl) ?_
  show xX G d mX8_leadOf r r (xΦ G r r Q) 0 [(0, .ref m), (1, .int (nI k))] [] (mput f m μ, r)
  refine xr_aload_n (n := 1) dX8_leadOf_0 rfl rfl ?_
  refine xr_get (n := 4) dX8_leadOf_1 fl_X8_34 (by first | exact mput_0 _ _ _ | exact mput_r (by decide)) (by rfl) rfl ?_
  refine xr_iload_n (n := 5) dX8_leadOf_4 rfl rfl ?_
  refine xr_iaload (n := 6) dX8_leadOf_5 (by first | exact mput_0 _ _ _ | exact mput_r (by decide)) (by first | exact vp_in_nI (by omega) (by omega)) rfl ?_
  try simp (disch := omega) only [nI_clamp, pk_mul, nI_add, oi1, up2_a, ur_a, Nat.reduceEqDiff, Nat.reduceMul, Nat.reduceAdd, reduceIte, if_pos, if_neg]
  refine xr_aload_n (n := 7) dX8_leadOf_6 rfl rfl ?_
  refine xr_get (n := 10) dX8_leadOf_7 fl_X8_34 (by first | exact mput_0 _ _ _ | exact mput_r (by decide)) (by rfl) rfl ?_
  refine xr_bipush (v := nI 40) (n := 12) dX8_leadOf_10 (by decide) rfl ?_
  refine xr_iload_n (n := 13) dX8_leadOf_12 rfl rfl ?_
  refine xr_iadd (n := 14) dX8_leadOf_13 rfl ?_
  try simp (disch := omega) only [nI_clamp, pk_mul, nI_add, oi1, up2_a, ur_a, Nat.reduceEqDiff, Nat.reduceMul, Nat.reduceAdd, reduceIte, if_pos, if_neg]
  refine xr_iaload (n := 15) dX8_leadOf_14 (by first | exact mput_0 _ _ _ | exact mput_r (by decide)) (by first | exact vp_in_nI (by omega) (by omega)) rfl ?_
  try simp (disch := omega) only [nI_clamp, pk_mul, nI_add, oi1, up2_a, ur_a, Nat.reduceEqDiff, Nat.reduceMul, Nat.reduceAdd, reduceIte, if_pos, if_neg]
  refine xr_isub (n := 16) dX8_leadOf_15 rfl ?_
  try simp (disch := omega) only [nI_clamp, pk_mul, nI_add, oi1, up2_a, ur_a, Nat.reduceEqDiff, Nat.reduceMul, Nat.reduceAdd, reduceIte, if_pos, if_neg]
  refine xr_ireturn dX8_leadOf_16 rfl rfl rfl ?_
  first | exact hq | (rw [b2i_t (by ((try simp (disch := omega) only [i_lt, i_le, i_eq, nt, i_m1, Int32.toInt_zero] at *); omega))] at hq; exact hq) | (rw [b2i_f (by ((try simp (disch := omega) only [i_lt, i_le, i_eq, nt, i_m1, Int32.toInt_zero] at *); omega))] at hq; exact hq)

theorem s_X8_isEqual {G : xG} {d : Nat} {f : Nat → xC} {r : Nat × Nat} {Q : Option Value → xM → Prop} {m : Nat} {μ : xS} {k x z : Nat} (hk : k < 40) (hx : x < 6) (hz : z < 6) (hq : Q (some (.int (b2i (μ 12 (6 * k + x) = μ 12 (240 + 6 * k + z))))) (mput f m μ, r)) : xMet G d mX8_isEqual [.ref m, .int (nI k), .int (nI x), .int (nI z)] (mput f m μ, r) r Q := by
  refine xMet_0 (by decide +kernel) rfl (Nat.le_of_ble_eq_true rfl) ?_
  show xX G d mX8_isEqual r r (xΦ G r r Q) 0 [(0, .ref m), (1, .int (nI k)), (2, .int (nI x)), (3, .int (nI z))] [] (mput f m μ, r)
  refine xr_aload_n (n := 1) dX8_isEqual_0 rfl rfl ?_
  refine xr_get (n := 4) dX8_isEqual_1 fl_X8_37 (by first | exact mput_0 _ _ _ | exact mput_r (by decide)) (by rfl) rfl ?_
  refine xr_bipush (v := nI 6) (n := 6) dX8_isEqual_4 (by decide) rfl ?_
  refine xr_iload_n (n := 7) dX8_isEqual_6 rfl rfl ?_
  refine xr_imul (n := 8) dX8_isEqual_7 rfl ?_
  try simp (disch := omega) only [nI_clamp, pk_mul, nI_add, oi1, up2_a, ur_a, Nat.reduceEqDiff, Nat.reduceMul, Nat.reduceAdd, reduceIte, if_pos, if_neg]
  refine xr_iload_n (n := 9) dX8_isEqual_8 rfl rfl ?_
  refine xr_iadd (n := 10) dX8_isEqual_9 rfl ?_
  try simp (disch := omega) only [nI_clamp, pk_mul, nI_add, oi1, up2_a, ur_a, Nat.reduceEqDiff, Nat.reduceMul, Nat.reduceAdd, reduceIte, if_pos, if_neg]
  refine xr_iaload (n := 11) dX8_isEqual_10 (by first | exact mput_0 _ _ _ | exact mput_r (by decide)) (by first | exact vp_in_nI (by omega) (by omega)) rfl ?_
  try simp (disch := omega) only [nI_clamp, pk_mul, nI_add, oi1, up2_a, ur_a, Nat.reduceEqDiff, Nat.reduceMul, Nat.reduceAdd, reduceIte, if_pos, if_neg]
  refine xr_aload_n (n := 12) dX8_isEqual_11 rfl rfl ?_
  refine xr_get (n := 15) dX8_isEqual_12 fl_X8_37 (by first | exact mput_0 _ _ _ | exact mput_r (by decide)) (by rfl) rfl ?_
  refine xr_sipush (v := nI 240) (n := 18) dX8_isEqual_15 (by decide) rfl ?_
  refine xr_bipush (v := nI 6) (n := 20) dX8_isEqual_18 (by decide) rfl ?_
  refine xr_iload_n (n := 21) dX8_isEqual_20 rfl rfl ?_
  refine xr_imul (n := 22) dX8_isEqual_21 rfl ?_
  try simp (disch := omega) only [nI_clamp, pk_mul, nI_add, oi1, up2_a, ur_a, Nat.reduceEqDiff, Nat.reduceMul, Nat.reduceAdd, reduceIte, if_pos, if_neg]
  refine xr_iadd (n := 23) dX8_isEqual_22 rfl ?_
  try simp (disch := omega) only [nI_clamp, pk_mul, nI_add, oi1, up2_a, ur_a, Nat.reduceEqDiff, Nat.reduceMul, Nat.reduceAdd, reduceIte, if_pos, if_neg]
  refine xr_iload_n (n := 24) dX8_isEqual_23 rfl rfl ?_
  refine xr_iadd (n := 25) dX8_isEqual_24 rfl ?_
  try simp (disch := omega) only [nI_clamp, pk_mul, nI_add, oi1, up2_a, ur_a, Nat.reduceEqDiff, Nat.reduceMul, Nat.reduceAdd, reduceIte, if_pos, if_neg]
  refine xr_iaload (n := 26) dX8_isEqual_25 (by first | exact mput_0 _ _ _ | exact mput_r (by decide)) (by first | exact vp_in_nI (by omega) (by omega)) rfl ?_
  try simp (disch := omega) only [nI_clamp, pk_mul, nI_add, oi1, up2_a, ur_a, Nat.reduceEqDiff, Nat.reduceMul, Nat.reduceAdd, reduceIte, if_pos, if_neg]
  refine xr_icmp_ne (tgt := 33) (n := 29) dX8_isEqual_26 (by decide) rfl (fun h26 => ?_) (fun h26 => ?_)
  · refine xr_iconst (v := nI 0) (n := 34) dX8_isEqual_33 (by decide) rfl ?_
    refine xr_ireturn dX8_isEqual_34 rfl (by first | exact b2i_nar | exact nar_1 | exact nar_0) rfl ?_
    first | (rw [b2i_t (by assumption)] at hq; exact hq) | (rw [b2i_f (by assumption)] at hq; exact hq)
  · refine xr_iconst (v := nI 1) (n := 30) dX8_isEqual_29 (by decide) rfl ?_
    refine xr_goto (n := 34) dX8_isEqual_30 (by decide) ?_
    refine xr_ireturn dX8_isEqual_34 rfl (by first | exact b2i_nar | exact nar_1 | exact nar_0) rfl ?_
    first | (rw [b2i_t (by assumption)] at hq; exact hq) | (rw [b2i_f (by assumption)] at hq; exact hq)

theorem s_X8_term {G : xG} {d : Nat} {f : Nat → xC} {r : Nat × Nat} {Q : Option Value → xM → Prop} {m : Nat} {μ : xS} {sd t : Nat} (hsd : sd ≤ 1) (ht : t < 2000) (hq1 : t < 10 → t < 6) (hq : Q (some (.int (if t < 10 then μ 9 (6 * sd + t) else nI (t - 10)))) (mput f m μ, r)) : xMet G d mX8_term [.ref m, .int (nI sd), .int (nI t)] (mput f m μ, r) r Q := by
  refine xMet_0 (by decide +kernel) rfl (Nat.le_of_ble_eq_true rfl) ?_
  show xX G d mX8_term r r (xΦ G r r Q) 0 [(0, .ref m), (1, .int (nI sd)), (2, .int (nI t))] [] (mput f m μ, r)
  refine xr_iload_n (n := 1) dX8_term_0 rfl rfl ?_
  refine xr_bipush (v := nI 10) (n := 3) dX8_term_1 (by decide) rfl ?_
  refine xr_icmp_ge (tgt := 20) (n := 6) dX8_term_3 (by decide) rfl (fun h3 => ?_) (fun h3 => ?_)
  · refine xr_iload_n (n := 21) dX8_term_20 rfl rfl ?_
    refine xr_bipush (v := nI 10) (n := 23) dX8_term_21 (by decide) rfl ?_
    refine xr_isub (n := 24) dX8_term_23 rfl ?_
    try simp (disch := omega) only [nI_clamp, pk_mul, nI_add, oi1, up2_a, ur_a, Nat.reduceEqDiff, Nat.reduceMul, Nat.reduceAdd, reduceIte, if_pos, if_neg, pk_sub]
    refine xr_ireturn dX8_term_24 rfl rfl rfl ?_
    refine qi hq ?_
    first | (rw [if_pos (by ((try simp (disch := omega) only [i_lt, i_le, i_eq, nt, i_m1, Int32.toInt_zero] at *); omega))]; done) | (rw [if_neg (by ((try simp (disch := omega) only [i_lt, i_le, i_eq, nt, i_m1, Int32.toInt_zero] at *); omega))]; exact (pk_sub (by ((try simp (disch := omega) only [i_lt, i_le, i_eq, nt, i_m1, Int32.toInt_zero] at *); omega))).symm)
  · have ht6 := hq1 (by ((try simp (disch := omega) only [i_lt, i_le, i_eq, nt, i_m1, Int32.toInt_zero] at *); omega))
    refine xr_aload_n (n := 7) dX8_term_6 rfl rfl ?_
    refine xr_get (n := 10) dX8_term_7 fl_X8_28 (by first | exact mput_0 _ _ _ | exact mput_r (by decide)) (by rfl) rfl ?_
    refine xr_bipush (v := nI 6) (n := 12) dX8_term_10 (by decide) rfl ?_
    refine xr_iload_n (n := 13) dX8_term_12 rfl rfl ?_
    refine xr_imul (n := 14) dX8_term_13 rfl ?_
    try simp (disch := omega) only [nI_clamp, pk_mul, nI_add, oi1, up2_a, ur_a, Nat.reduceEqDiff, Nat.reduceMul, Nat.reduceAdd, reduceIte, if_pos, if_neg, pk_sub]
    refine xr_iload_n (n := 15) dX8_term_14 rfl rfl ?_
    refine xr_iadd (n := 16) dX8_term_15 rfl ?_
    try simp (disch := omega) only [nI_clamp, pk_mul, nI_add, oi1, up2_a, ur_a, Nat.reduceEqDiff, Nat.reduceMul, Nat.reduceAdd, reduceIte, if_pos, if_neg, pk_sub]
    refine xr_iaload (n := 17) dX8_term_16 (by first | exact mput_0 _ _ _ | exact mput_r (by decide)) (by first | exact vp_in_nI (by omega) (by omega)) rfl ?_
    try simp (disch := omega) only [nI_clamp, pk_mul, nI_add, oi1, up2_a, ur_a, Nat.reduceEqDiff, Nat.reduceMul, Nat.reduceAdd, reduceIte, if_pos, if_neg, pk_sub]
    refine xr_goto (n := 24) dX8_term_17 (by decide) ?_
    refine xr_ireturn dX8_term_24 rfl rfl rfl ?_
    refine qi hq ?_
    first | (rw [if_pos (by ((try simp (disch := omega) only [i_lt, i_le, i_eq, nt, i_m1, Int32.toInt_zero] at *); omega))]; done) | (rw [if_neg (by ((try simp (disch := omega) only [i_lt, i_le, i_eq, nt, i_m1, Int32.toInt_zero] at *); omega))]; exact (pk_sub (by ((try simp (disch := omega) only [i_lt, i_le, i_eq, nt, i_m1, Int32.toInt_zero] at *); omega))).symm)

theorem s_X8_tellsCell {G : xG} {d : Nat} {f : Nat → xC} {r : Nat × Nat} {Q : Option Value → xM → Prop} {m : Nat} {μ : xS} {sd s n c : Nat} (hsd : sd ≤ 1) (hs : s < 60) (hn : μ 13 (6 * sd + 2) = nI n) (hn2 : n ≤ 400) (hc : μ 5 (1 + 7 * s + 1) = nI c) (hc2 : c < 6) (hq : Q none (mput f m (up2 (if n < 40 then up2 μ 10 (40 * sd + n) (μ 9 (6 * sd + c)) else μ) 13 (6 * sd + 2) (nI (n + 1))), r)) : xMet G (d + 1) mX8_tellsCell [.ref m, .int (nI sd), .int (nI s)] (mput f m μ, r) r Q := by
  refine xMet_0 (by decide +kernel) rfl (Nat.le_of_ble_eq_true rfl) ?_
  show xX G (d + 1) mX8_tellsCell r r (xΦ G r r Q) 0 [(0, .ref m), (1, .int (nI sd)), (2, .int (nI s))] [] (mput f m μ, r)
  refine xr_aload_n (n := 1) dX8_tellsCell_0 rfl rfl ?_
  refine xr_get (n := 4) dX8_tellsCell_1 fl_X8_40 (by first | exact mput_0 _ _ _ | exact mput_r (by decide)) (by rfl) rfl ?_
  refine xr_bipush (v := nI 6) (n := 6) dX8_tellsCell_4 (by decide) rfl ?_
  refine xr_iload_n (n := 7) dX8_tellsCell_6 rfl rfl ?_
  refine xr_imul (n := 8) dX8_tellsCell_7 rfl ?_
  try simp (disch := omega) only [nI_clamp, pk_mul, nI_add, oi1, up2_a, ur_a, Nat.reduceEqDiff, Nat.reduceMul, Nat.reduceAdd, reduceIte, if_pos, if_neg, hn, hc]
  refine xr_iconst (v := nI 2) (n := 9) dX8_tellsCell_8 (by decide) rfl ?_
  refine xr_iadd (n := 10) dX8_tellsCell_9 rfl ?_
  try simp (disch := omega) only [nI_clamp, pk_mul, nI_add, oi1, up2_a, ur_a, Nat.reduceEqDiff, Nat.reduceMul, Nat.reduceAdd, reduceIte, if_pos, if_neg, hn, hc]
  refine xr_iaload (n := 11) dX8_tellsCell_10 (by first | exact mput_0 _ _ _ | exact mput_r (by decide)) (by first | exact vp_in_nI (by omega) (by omega)) rfl ?_
  try simp (disch := omega) only [nI_clamp, pk_mul, nI_add, oi1, up2_a, ur_a, Nat.reduceEqDiff, Nat.reduceMul, Nat.reduceAdd, reduceIte, if_pos, if_neg, hn, hc]
  refine xr_istore_n (n := 12) dX8_tellsCell_11 rfl rfl ?_
  dsimp only [xst, Nat.beq, List.filter, Bool.not_true, Bool.not_false]
  refine xr_iload_n (n := 13) dX8_tellsCell_12 rfl rfl ?_
  refine xr_bipush (v := nI 40) (n := 15) dX8_tellsCell_13 (by decide) rfl ?_
  refine xr_icmp_ge (tgt := 45) (n := 18) dX8_tellsCell_15 (by decide) rfl (fun h15 => ?_) (fun h15 => ?_)
  · have hlt : ¬ n < 40 := by ((try simp (disch := omega) only [i_lt, i_le, i_eq, nt, i_m1, Int32.toInt_zero] at *); omega)
    refine xr_aload_n (n := 46) dX8_tellsCell_45 rfl rfl ?_
    refine xr_get (n := 49) dX8_tellsCell_46 fl_X8_40 (by first | exact mput_0 _ _ _ | exact mput_r (by decide)) (by rfl) rfl ?_
    refine xr_bipush (v := nI 6) (n := 51) dX8_tellsCell_49 (by decide) rfl ?_
    refine xr_iload_n (n := 52) dX8_tellsCell_51 rfl rfl ?_
    refine xr_imul (n := 53) dX8_tellsCell_52 rfl ?_
    try simp (disch := omega) only [nI_clamp, pk_mul, nI_add, oi1, up2_a, ur_a, Nat.reduceEqDiff, Nat.reduceMul, Nat.reduceAdd, reduceIte, if_pos, if_neg, hn, hc]
    refine xr_iconst (v := nI 2) (n := 54) dX8_tellsCell_53 (by decide) rfl ?_
    refine xr_iadd (n := 55) dX8_tellsCell_54 rfl ?_
    try simp (disch := omega) only [nI_clamp, pk_mul, nI_add, oi1, up2_a, ur_a, Nat.reduceEqDiff, Nat.reduceMul, Nat.reduceAdd, reduceIte, if_pos, if_neg, hn, hc]
    refine xr_dup2 (n := 56) dX8_tellsCell_55 rfl rfl rfl ?_
    refine xr_iaload (n := 57) dX8_tellsCell_56 (by first | exact mput_0 _ _ _ | exact mput_r (by decide)) (by first | exact vp_in_nI (by omega) (by omega)) rfl ?_
    try simp (disch := omega) only [nI_clamp, pk_mul, nI_add, oi1, up2_a, ur_a, Nat.reduceEqDiff, Nat.reduceMul, Nat.reduceAdd, reduceIte, if_pos, if_neg, hn, hc]
    refine xr_iconst (v := nI 1) (n := 58) dX8_tellsCell_57 (by decide) rfl ?_
    refine xr_iadd (n := 59) dX8_tellsCell_58 rfl ?_
    try simp (disch := omega) only [nI_clamp, pk_mul, nI_add, oi1, up2_a, ur_a, Nat.reduceEqDiff, Nat.reduceMul, Nat.reduceAdd, reduceIte, if_pos, if_neg, hn, hc]
    refine xq_iastore (n := 60) dX8_tellsCell_59 (by first | exact mput_0 _ _ _ | exact mput_r (by decide)) (by first | exact vp_in_nI (by omega) (by omega)) rfl ?_
    simp (disch := omega) only [nI_clamp, List.set, mw_0, mw_1, mw_2, mw_3, mw_4, mw_5, mw_6, mw_7, mw_8, mw_9, mw_10, mw_11, mw_12, mw_13, mw_14, mw_15, mw_16, mw_17, mw_18, mw_19]
    refine xr_return dX8_tellsCell_60 rfl rfl ?_
    first | (rw [if_pos hlt] at hq; exact hq) | (rw [if_neg hlt] at hq; exact hq)
  · have hlt : n < 40 := by ((try simp (disch := omega) only [i_lt, i_le, i_eq, nt, i_m1, Int32.toInt_zero] at *); omega)
    refine xr_aload_n (n := 19) dX8_tellsCell_18 rfl rfl ?_
    refine xr_get (n := 22) dX8_tellsCell_19 fl_X8_31 (by first | exact mput_0 _ _ _ | exact mput_r (by decide)) (by rfl) rfl ?_
    refine xr_bipush (v := nI 40) (n := 24) dX8_tellsCell_22 (by decide) rfl ?_
    refine xr_iload_n (n := 25) dX8_tellsCell_24 rfl rfl ?_
    refine xr_imul (n := 26) dX8_tellsCell_25 rfl ?_
    try simp (disch := omega) only [nI_clamp, pk_mul, nI_add, oi1, up2_a, ur_a, Nat.reduceEqDiff, Nat.reduceMul, Nat.reduceAdd, reduceIte, if_pos, if_neg, hn, hc]
    refine xr_iload_n (n := 27) dX8_tellsCell_26 rfl rfl ?_
    refine xr_iadd (n := 28) dX8_tellsCell_27 rfl ?_
    try simp (disch := omega) only [nI_clamp, pk_mul, nI_add, oi1, up2_a, ur_a, Nat.reduceEqDiff, Nat.reduceMul, Nat.reduceAdd, reduceIte, if_pos, if_neg, hn, hc]
    refine xr_aload_n (n := 29) dX8_tellsCell_28 rfl rfl ?_
    refine xr_get (n := 32) dX8_tellsCell_29 fl_X8_28 (by first | exact mput_0 _ _ _ | exact mput_r (by decide)) (by rfl) rfl ?_
    refine xr_bipush (v := nI 6) (n := 34) dX8_tellsCell_32 (by decide) rfl ?_
    refine xr_iload_n (n := 35) dX8_tellsCell_34 rfl rfl ?_
    refine xr_imul (n := 36) dX8_tellsCell_35 rfl ?_
    try simp (disch := omega) only [nI_clamp, pk_mul, nI_add, oi1, up2_a, ur_a, Nat.reduceEqDiff, Nat.reduceMul, Nat.reduceAdd, reduceIte, if_pos, if_neg, hn, hc]
    refine xr_aload_n (n := 37) dX8_tellsCell_36 rfl rfl ?_
    refine xr_iload_n (n := 38) dX8_tellsCell_37 rfl rfl ?_
    refine xr_iconst (v := nI 1) (n := 39) dX8_tellsCell_38 (by decide) rfl ?_
    refine xr_callV (y2 := mX8_of) (As := [_, _]) (n := 42) dX8_tellsCell_39 lm_X8_124 pm_X8_of pi_X8_of (by first | exact mput_0 _ _ _ | exact mput_r (by decide)) rfl rfl rfl (by simp [Value.category]) rfl ⟨Nat.le_refl _, Nat.le_refl _⟩ ?_
    refine s_X8_of (by omega) (by omega) ?_
    dsimp only [xK, xps]
    refine xr_iadd (n := 43) dX8_tellsCell_42 rfl ?_
    try simp (disch := omega) only [nI_clamp, pk_mul, nI_add, oi1, up2_a, ur_a, Nat.reduceEqDiff, Nat.reduceMul, Nat.reduceAdd, reduceIte, if_pos, if_neg, hn, hc]
    refine xr_iaload (n := 44) dX8_tellsCell_43 (by first | exact mput_0 _ _ _ | exact mput_r (by decide)) (by first | exact vp_in_nI (by omega) (by omega)) rfl ?_
    try simp (disch := omega) only [nI_clamp, pk_mul, nI_add, oi1, up2_a, ur_a, Nat.reduceEqDiff, Nat.reduceMul, Nat.reduceAdd, reduceIte, if_pos, if_neg, hn, hc]
    refine xq_iastore (n := 45) dX8_tellsCell_44 (by first | exact mput_0 _ _ _ | exact mput_r (by decide)) (by first | exact vp_in_nI (by omega) (by omega)) rfl ?_
    simp (disch := omega) only [nI_clamp, List.set, mw_0, mw_1, mw_2, mw_3, mw_4, mw_5, mw_6, mw_7, mw_8, mw_9, mw_10, mw_11, mw_12, mw_13, mw_14, mw_15, mw_16, mw_17, mw_18, mw_19]
    refine xr_aload_n (n := 46) dX8_tellsCell_45 rfl rfl ?_
    refine xr_get (n := 49) dX8_tellsCell_46 fl_X8_40 (by first | exact mput_0 _ _ _ | exact mput_r (by decide)) (by rfl) rfl ?_
    refine xr_bipush (v := nI 6) (n := 51) dX8_tellsCell_49 (by decide) rfl ?_
    refine xr_iload_n (n := 52) dX8_tellsCell_51 rfl rfl ?_
    refine xr_imul (n := 53) dX8_tellsCell_52 rfl ?_
    try simp (disch := omega) only [nI_clamp, pk_mul, nI_add, oi1, up2_a, ur_a, Nat.reduceEqDiff, Nat.reduceMul, Nat.reduceAdd, reduceIte, if_pos, if_neg, hn, hc]
    refine xr_iconst (v := nI 2) (n := 54) dX8_tellsCell_53 (by decide) rfl ?_
    refine xr_iadd (n := 55) dX8_tellsCell_54 rfl ?_
    try simp (disch := omega) only [nI_clamp, pk_mul, nI_add, oi1, up2_a, ur_a, Nat.reduceEqDiff, Nat.reduceMul, Nat.reduceAdd, reduceIte, if_pos, if_neg, hn, hc]
    refine xr_dup2 (n := 56) dX8_tellsCell_55 rfl rfl rfl ?_
    refine xr_iaload (n := 57) dX8_tellsCell_56 (by first | exact mput_0 _ _ _ | exact mput_r (by decide)) (by first | exact vp_in_nI (by omega) (by omega)) rfl ?_
    try simp (disch := omega) only [nI_clamp, pk_mul, nI_add, oi1, up2_a, ur_a, Nat.reduceEqDiff, Nat.reduceMul, Nat.reduceAdd, reduceIte, if_pos, if_neg, hn, hc]
    refine xr_iconst (v := nI 1) (n := 58) dX8_tellsCell_57 (by decide) rfl ?_
    refine xr_iadd (n := 59) dX8_tellsCell_58 rfl ?_
    try simp (disch := omega) only [nI_clamp, pk_mul, nI_add, oi1, up2_a, ur_a, Nat.reduceEqDiff, Nat.reduceMul, Nat.reduceAdd, reduceIte, if_pos, if_neg, hn, hc]
    refine xq_iastore (n := 60) dX8_tellsCell_59 (by first | exact mput_0 _ _ _ | exact mput_r (by decide)) (by first | exact vp_in_nI (by omega) (by omega)) rfl ?_
    simp (disch := omega) only [nI_clamp, List.set, mw_0, mw_1, mw_2, mw_3, mw_4, mw_5, mw_6, mw_7, mw_8, mw_9, mw_10, mw_11, mw_12, mw_13, mw_14, mw_15, mw_16, mw_17, mw_18, mw_19]
    refine xr_return dX8_tellsCell_60 rfl rfl ?_
    first | (rw [if_pos hlt] at hq; exact hq) | (rw [if_neg hlt] at hq; exact hq)

theorem s_X8_roundOf {G : xG} {d : Nat} {f : Nat → xC} {r : Nat × Nat} {Q : Option Value → xM → Prop} {m : Nat} {μ : xS} {sd dp a b e : Nat} (hsd : sd ≤ 1) (hdp : dp < 6) (ha : μ 16 dp = nI a) (hb : μ 13 (6 * sd + 4) = nI b) (he : μ 13 (6 * sd + 5) = nI e) (ha2 : a ≤ 400) (hb2 : b ≤ 400) (he2 : e ≤ 400) (hq : Q none (mput f m (up2 (up2 (up2 μ 16 dp (nI (a + 1))) 13 (6 * sd + 4) (nI (b + 1))) 13 (6 * sd + 5) (nI (if e < a + 1 then a + 1 else e))), r)) : xMet G d mX8_roundOf [.ref m, .int (nI sd), .int (nI dp)] (mput f m μ, r) r Q := by
  refine xMet_0 (by decide +kernel) rfl (Nat.le_of_ble_eq_true rfl) ?_
  show xX G d mX8_roundOf r r (xΦ G r r Q) 0 [(0, .ref m), (1, .int (nI sd)), (2, .int (nI dp))] [] (mput f m μ, r)
  refine xr_aload_n (n := 1) dX8_roundOf_0 rfl rfl ?_
  refine xr_get (n := 4) dX8_roundOf_1 fl_X8_49 (by first | exact mput_0 _ _ _ | exact mput_r (by decide)) (by rfl) rfl ?_
  refine xr_iload_n (n := 5) dX8_roundOf_4 rfl rfl ?_
  refine xr_dup2 (n := 6) dX8_roundOf_5 rfl rfl rfl ?_
  refine xr_iaload (n := 7) dX8_roundOf_6 (by first | exact mput_0 _ _ _ | exact mput_r (by decide)) (by first | exact vp_in_nI (by omega) (by omega)) rfl ?_
  try simp (disch := omega) only [nI_clamp, pk_mul, nI_add, oi1, up2_a, ur_a, Nat.reduceEqDiff, Nat.reduceMul, Nat.reduceAdd, reduceIte, if_pos, if_neg, ha, hb, he]
  refine xr_iconst (v := nI 1) (n := 8) dX8_roundOf_7 (by decide) rfl ?_
  refine xr_iadd (n := 9) dX8_roundOf_8 rfl ?_
  try simp (disch := omega) only [nI_clamp, pk_mul, nI_add, oi1, up2_a, ur_a, Nat.reduceEqDiff, Nat.reduceMul, Nat.reduceAdd, reduceIte, if_pos, if_neg, ha, hb, he]
  refine xq_iastore (n := 10) dX8_roundOf_9 (by first | exact mput_0 _ _ _ | exact mput_r (by decide)) (by first | exact vp_in_nI (by omega) (by omega)) rfl ?_
  simp (disch := omega) only [nI_clamp, List.set, mw_0, mw_1, mw_2, mw_3, mw_4, mw_5, mw_6, mw_7, mw_8, mw_9, mw_10, mw_11, mw_12, mw_13, mw_14, mw_15, mw_16, mw_17, mw_18, mw_19]
  refine xr_aload_n (n := 11) dX8_roundOf_10 rfl rfl ?_
  refine xr_get (n := 14) dX8_roundOf_11 fl_X8_40 (by first | exact mput_0 _ _ _ | exact mput_r (by decide)) (by rfl) rfl ?_
  refine xr_bipush (v := nI 6) (n := 16) dX8_roundOf_14 (by decide) rfl ?_
  refine xr_iload_n (n := 17) dX8_roundOf_16 rfl rfl ?_
  refine xr_imul (n := 18) dX8_roundOf_17 rfl ?_
  try simp (disch := omega) only [nI_clamp, pk_mul, nI_add, oi1, up2_a, ur_a, Nat.reduceEqDiff, Nat.reduceMul, Nat.reduceAdd, reduceIte, if_pos, if_neg, ha, hb, he]
  refine xr_iconst (v := nI 4) (n := 19) dX8_roundOf_18 (by decide) rfl ?_
  refine xr_iadd (n := 20) dX8_roundOf_19 rfl ?_
  try simp (disch := omega) only [nI_clamp, pk_mul, nI_add, oi1, up2_a, ur_a, Nat.reduceEqDiff, Nat.reduceMul, Nat.reduceAdd, reduceIte, if_pos, if_neg, ha, hb, he]
  refine xr_dup2 (n := 21) dX8_roundOf_20 rfl rfl rfl ?_
  refine xr_iaload (n := 22) dX8_roundOf_21 (by first | exact mput_0 _ _ _ | exact mput_r (by decide)) (by first | exact vp_in_nI (by omega) (by omega)) rfl ?_
  try simp (disch := omega) only [nI_clamp, pk_mul, nI_add, oi1, up2_a, ur_a, Nat.reduceEqDiff, Nat.reduceMul, Nat.reduceAdd, reduceIte, if_pos, if_neg, ha, hb, he]
  refine xr_iconst (v := nI 1) (n := 23) dX8_roundOf_22 (by decide) rfl ?_
  refine xr_iadd (n := 24) dX8_roundOf_23 rfl ?_
  try simp (disch := omega) only [nI_clamp, pk_mul, nI_add, oi1, up2_a, ur_a, Nat.reduceEqDiff, Nat.reduceMul, Nat.reduceAdd, reduceIte, if_pos, if_neg, ha, hb, he]
  refine xq_iastore (n := 25) dX8_roundOf_24 (by first | exact mput_0 _ _ _ | exact mput_r (by decide)) (by first | exact vp_in_nI (by omega) (by omega)) rfl ?_
  simp (disch := omega) only [nI_clamp, List.set, mw_0, mw_1, mw_2, mw_3, mw_4, mw_5, mw_6, mw_7, mw_8, mw_9, mw_10, mw_11, mw_12, mw_13, mw_14, mw_15, mw_16, mw_17, mw_18, mw_19]
  refine xr_aload_n (n := 26) dX8_roundOf_25 rfl rfl ?_
  refine xr_get (n := 29) dX8_roundOf_26 fl_X8_40 (by first | exact mput_0 _ _ _ | exact mput_r (by decide)) (by rfl) rfl ?_
  refine xr_bipush (v := nI 6) (n := 31) dX8_roundOf_29 (by decide) rfl ?_
  refine xr_iload_n (n := 32) dX8_roundOf_31 rfl rfl ?_
  refine xr_imul (n := 33) dX8_roundOf_32 rfl ?_
  try simp (disch := omega) only [nI_clamp, pk_mul, nI_add, oi1, up2_a, ur_a, Nat.reduceEqDiff, Nat.reduceMul, Nat.reduceAdd, reduceIte, if_pos, if_neg, ha, hb, he]
  refine xr_iconst (v := nI 5) (n := 34) dX8_roundOf_33 (by decide) rfl ?_
  refine xr_iadd (n := 35) dX8_roundOf_34 rfl ?_
  try simp (disch := omega) only [nI_clamp, pk_mul, nI_add, oi1, up2_a, ur_a, Nat.reduceEqDiff, Nat.reduceMul, Nat.reduceAdd, reduceIte, if_pos, if_neg, ha, hb, he]
  refine xr_aload_n (n := 36) dX8_roundOf_35 rfl rfl ?_
  refine xr_get (n := 39) dX8_roundOf_36 fl_X8_49 (by first | exact mput_0 _ _ _ | exact mput_r (by decide)) (by rfl) rfl ?_
  refine xr_iload_n (n := 40) dX8_roundOf_39 rfl rfl ?_
  refine xr_iaload (n := 41) dX8_roundOf_40 (by first | exact mput_0 _ _ _ | exact mput_r (by decide)) (by first | exact vp_in_nI (by omega) (by omega)) rfl ?_
  try simp (disch := omega) only [nI_clamp, pk_mul, nI_add, oi1, up2_a, ur_a, Nat.reduceEqDiff, Nat.reduceMul, Nat.reduceAdd, reduceIte, if_pos, if_neg, ha, hb, he]
  refine xr_aload_n (n := 42) dX8_roundOf_41 rfl rfl ?_
  refine xr_get (n := 45) dX8_roundOf_42 fl_X8_40 (by first | exact mput_0 _ _ _ | exact mput_r (by decide)) (by rfl) rfl ?_
  refine xr_bipush (v := nI 6) (n := 47) dX8_roundOf_45 (by decide) rfl ?_
  refine xr_iload_n (n := 48) dX8_roundOf_47 rfl rfl ?_
  refine xr_imul (n := 49) dX8_roundOf_48 rfl ?_
  try simp (disch := omega) only [nI_clamp, pk_mul, nI_add, oi1, up2_a, ur_a, Nat.reduceEqDiff, Nat.reduceMul, Nat.reduceAdd, reduceIte, if_pos, if_neg, ha, hb, he]
  refine xr_iconst (v := nI 5) (n := 50) dX8_roundOf_49 (by decide) rfl ?_
  refine xr_iadd (n := 51) dX8_roundOf_50 rfl ?_
  try simp (disch := omega) only [nI_clamp, pk_mul, nI_add, oi1, up2_a, ur_a, Nat.reduceEqDiff, Nat.reduceMul, Nat.reduceAdd, reduceIte, if_pos, if_neg, ha, hb, he]
  refine xr_iaload (n := 52) dX8_roundOf_51 (by first | exact mput_0 _ _ _ | exact mput_r (by decide)) (by first | exact vp_in_nI (by omega) (by omega)) rfl ?_
  try simp (disch := omega) only [nI_clamp, pk_mul, nI_add, oi1, up2_a, ur_a, Nat.reduceEqDiff, Nat.reduceMul, Nat.reduceAdd, reduceIte, if_pos, if_neg, ha, hb, he]
  refine xr_icmp_le (tgt := 64) (n := 55) dX8_roundOf_52 (by decide) rfl (fun h52 => ?_) (fun h52 => ?_)
  · refine xr_aload_n (n := 65) dX8_roundOf_64 rfl rfl ?_
    refine xr_get (n := 68) dX8_roundOf_65 fl_X8_40 (by first | exact mput_0 _ _ _ | exact mput_r (by decide)) (by rfl) rfl ?_
    refine xr_bipush (v := nI 6) (n := 70) dX8_roundOf_68 (by decide) rfl ?_
    refine xr_iload_n (n := 71) dX8_roundOf_70 rfl rfl ?_
    refine xr_imul (n := 72) dX8_roundOf_71 rfl ?_
    refine xr_iconst (v := nI 5) (n := 73) dX8_roundOf_72 (by decide) rfl ?_
    refine xr_iadd (n := 74) dX8_roundOf_73 rfl ?_
    try simp (disch := omega) only [nI_clamp, pk_mul, nI_add, oi1, up2_a, ur_a, Nat.reduceEqDiff, Nat.reduceMul, Nat.reduceAdd, reduceIte, if_pos, if_neg, ha, hb, he]
    refine xr_iaload (n := 75) dX8_roundOf_74 (by first | exact mput_0 _ _ _ | exact mput_r (by decide)) (by first | exact vp_in_nI (by omega) (by omega)) rfl ?_
    try simp (disch := omega) only [nI_clamp, pk_mul, nI_add, oi1, up2_a, ur_a, Nat.reduceEqDiff, Nat.reduceMul, Nat.reduceAdd, reduceIte, if_pos, if_neg, ha, hb, he]
    refine xq_iastore (n := 76) dX8_roundOf_75 (by first | exact mput_0 _ _ _ | exact mput_r (by decide)) (by first | exact vp_in_nI (by omega) (by omega)) rfl ?_
    simp (disch := omega) only [nI_clamp, List.set, mw_0, mw_1, mw_2, mw_3, mw_4, mw_5, mw_6, mw_7, mw_8, mw_9, mw_10, mw_11, mw_12, mw_13, mw_14, mw_15, mw_16, mw_17, mw_18, mw_19]
    refine xr_return dX8_roundOf_76 rfl rfl ?_
    first | (rw [if_pos (by ((try simp (disch := omega) only [i_lt, i_le, i_eq, nt, i_m1, Int32.toInt_zero] at *); omega))] at hq; exact hq) | (rw [if_neg (by ((try simp (disch := omega) only [i_lt, i_le, i_eq, nt, i_m1, Int32.toInt_zero] at *); omega))] at hq; exact hq)
  · refine xr_aload_n (n := 56) dX8_roundOf_55 rfl rfl ?_
    refine xr_get (n := 59) dX8_roundOf_56 fl_X8_49 (by first | exact mput_0 _ _ _ | exact mput_r (by decide)) (by rfl) rfl ?_
    refine xr_iload_n (n := 60) dX8_roundOf_59 rfl rfl ?_
    refine xr_iaload (n := 61) dX8_roundOf_60 (by first | exact mput_0 _ _ _ | exact mput_r (by decide)) (by first | exact vp_in_nI (by omega) (by omega)) rfl ?_
    try simp (disch := omega) only [nI_clamp, pk_mul, nI_add, oi1, up2_a, ur_a, Nat.reduceEqDiff, Nat.reduceMul, Nat.reduceAdd, reduceIte, if_pos, if_neg, ha, hb, he]
    refine xr_goto (n := 75) dX8_roundOf_61 (by decide) ?_
    refine xq_iastore (n := 76) dX8_roundOf_75 (by first | exact mput_0 _ _ _ | exact mput_r (by decide)) (by first | exact vp_in_nI (by omega) (by omega)) rfl ?_
    simp (disch := omega) only [nI_clamp, List.set, mw_0, mw_1, mw_2, mw_3, mw_4, mw_5, mw_6, mw_7, mw_8, mw_9, mw_10, mw_11, mw_12, mw_13, mw_14, mw_15, mw_16, mw_17, mw_18, mw_19]
    refine xr_return dX8_roundOf_76 rfl rfl ?_
    first | (rw [if_pos (by ((try simp (disch := omega) only [i_lt, i_le, i_eq, nt, i_m1, Int32.toInt_zero] at *); omega))] at hq; exact hq) | (rw [if_neg (by ((try simp (disch := omega) only [i_lt, i_le, i_eq, nt, i_m1, Int32.toInt_zero] at *); omega))] at hq; exact hq)
end
section
/-- a program of n statements in a row of code: kind, cell, operator, one, other, middle, end -/
def isPg (row : Nat → Int32) (n : Nat) (P : Nat → Nat → Nat) : Prop := row 0 = nI n ∧ ∀ s w, s < n → w < 7 → row (1 + 7 * s + w) = nI (P s w)
def okT (t : Nat) : Prop := t < 6 ∨ (10 ≤ t ∧ t ≤ 1009)
/-- what each statement's numbers keep to -/
def okP (n : Nat) (P : Nat → Nat → Nat) : Prop := n ≤ 60 ∧ ∀ s, s < n → P s 0 ≤ 4 ∧ P s 1 < 6 ∧ (P s 2 = 0 ∨ P s 2 = 42 ∨ P s 2 = 43 ∨ P s 2 = 45) ∧ okT (P s 3) ∧ okT (P s 4) ∧ (3 ≤ P s 0 → s < P s 6 ∧ P s 6 ≤ n) ∧ (P s 0 = 4 → s < P s 5 ∧ P s 5 ≤ P s 6)
theorem isPg.g {row : Nat → Int32} {n : Nat} {P : Nat → Nat → Nat} (h : isPg row n P) {s w : Nat} (hs : s < n) (hw : w < 7) : row (1 + 7 * s + w) = nI (P s w) := h.2 s w hs hw
def mterm (μ : xS) (sd t : Nat) : Int32 := if t < 10 then μ 9 (6 * sd + t) else nI (t - 10)
def mval (a b : Int32) (op : Nat) : Int32 := if op = 0 then a else if op = 43 then a + b else if op = 45 then a - b else a * b
def msets (μ : xS) (sd c op one oth : Nat) : xS := up2 μ 9 (6 * sd + c) (mheld (mval (mterm μ sd one) (mterm μ sd oth) op))
def mtells (μ : xS) (sd n c : Nat) : xS := up2 (if n < 40 then up2 μ 10 (40 * sd + n) (μ 9 (6 * sd + c)) else μ) 13 (6 * sd + 2) (nI (n + 1))
def mmark1 (μ : xS) (sd n st k : Nat) : xS := ur (up2 μ 11 (40 * sd + n) (nI st)) 12 (fo (fun c => μ 9 (6 * sd + c)) (μ 12) (240 * sd + 6 * n) k)
def mmarks (μ : xS) (sd n st : Nat) : xS := up2 (if n < 40 then mmark1 μ sd n st 6 else μ) 13 (6 * sd + 3) (nI (n + 1))
def mround (μ : xS) (sd dp a b e : Nat) : xS := up2 (up2 (up2 μ 16 dp (nI (a + 1))) 13 (6 * sd + 4) (nI (b + 1))) 13 (6 * sd + 5) (nI (if e < a + 1 then a + 1 else e))
theorem s_X8_sizeOf {G : xG} {d : Nat} {f : Nat → xC} {r : Nat × Nat} {Q : Option Value → xM → Prop} {m : Nat} {μ : xS} {n s : Nat} {P : Nat → Nat → Nat} (hP : isPg (μ 5) n P) (hO : okP n P) (hs : s < n) (hq : Q (some (.int (nI (if 3 ≤ P s 0 then P s 6 - s else 1)))) (mput f m μ, r)) : xMet G (d + 1) mX8_sizeOf [.ref m, .int (nI s)] (mput f m μ, r) r Q := by
  refine xMet_0 (by decide +kernel) rfl (Nat.le_of_ble_eq_true rfl) ?_
  show xX G (d + 1) mX8_sizeOf r r (xΦ G r r Q) 0 [(0, .ref m), (1, .int (nI s))] [] (mput f m μ, r)
  have hn6 := hO.1
  obtain ⟨k0, k1, k2, k3, k4, k6, k5⟩ := hO.2 s hs
  unfold okT at k3 k4
  have g0 := hP.g (w := 0) hs (by omega)
  have g1 := hP.g (w := 1) hs (by omega)
  have g2 := hP.g (w := 2) hs (by omega)
  have g3 := hP.g (w := 3) hs (by omega)
  have g4 := hP.g (w := 4) hs (by omega)
  have g5 := hP.g (w := 5) hs (by omega)
  have g6 := hP.g (w := 6) hs (by omega)
  refine xr_aload_n (n := 1) dX8_sizeOf_0 rfl rfl ?_
  refine xr_iload_n (n := 2) dX8_sizeOf_1 rfl rfl ?_
  refine xr_iconst (v := nI 0) (n := 3) dX8_sizeOf_2 (by decide) rfl ?_
  refine xr_callV (y2 := mX8_of) (As := [_, _]) (n := 6) dX8_sizeOf_3 lm_X8_124 pm_X8_of pi_X8_of (by first | exact mput_0 _ _ _ | exact mput_r (by decide)) rfl rfl rfl (by simp [Value.category]) rfl ⟨Nat.le_refl _, Nat.le_refl _⟩ ?_
  refine s_X8_of (by omega) (by omega) ?_
  dsimp only [xK, xps]
  try simp (disch := omega) only [nI_clamp, pk_mul, nI_add, oi1, up2_a, ur_a, Nat.reduceEqDiff, Nat.reduceMul, Nat.reduceAdd, reduceIte, if_pos, if_neg, g0, g1, g2, g3, g4, g5, g6]
  refine xr_iconst (v := nI 3) (n := 7) dX8_sizeOf_6 (by decide) rfl ?_
  refine xr_icmp_lt (tgt := 22) (n := 10) dX8_sizeOf_7 (by decide) rfl (fun h7 => ?_) (fun h7 => ?_)
  · refine xr_iconst (v := nI 1) (n := 23) dX8_sizeOf_22 (by decide) rfl ?_
    refine xr_ireturn dX8_sizeOf_23 rfl rfl rfl ?_
    refine qi hq ?_
    first | (rw [if_neg (by ((try simp (disch := omega) only [i_lt, i_le, i_eq, nt, i_m1, Int32.toInt_zero] at *); omega))]; done) | (rw [if_pos (show 3 ≤ P s 0 by ((try simp (disch := omega) only [i_lt, i_le, i_eq, nt, i_m1, Int32.toInt_zero] at *); omega))]; exact (pk_sub (Nat.le_of_lt (k6 (by ((try simp (disch := omega) only [i_lt, i_le, i_eq, nt, i_m1, Int32.toInt_zero] at *); omega))).1)).symm)
  · refine xr_aload_n (n := 11) dX8_sizeOf_10 rfl rfl ?_
    refine xr_iload_n (n := 12) dX8_sizeOf_11 rfl rfl ?_
    refine xr_bipush (v := nI 6) (n := 14) dX8_sizeOf_12 (by decide) rfl ?_
    refine xr_callV (y2 := mX8_of) (As := [_, _]) (n := 17) dX8_sizeOf_14 lm_X8_124 pm_X8_of pi_X8_of (by first | exact mput_0 _ _ _ | exact mput_r (by decide)) rfl rfl rfl (by simp [Value.category]) rfl ⟨Nat.le_refl _, Nat.le_refl _⟩ ?_
    refine s_X8_of (by omega) (by omega) ?_
    dsimp only [xK, xps]
    try simp (disch := omega) only [nI_clamp, pk_mul, nI_add, oi1, up2_a, ur_a, Nat.reduceEqDiff, Nat.reduceMul, Nat.reduceAdd, reduceIte, if_pos, if_neg, g0, g1, g2, g3, g4, g5, g6]
    refine xr_iload_n (n := 18) dX8_sizeOf_17 rfl rfl ?_
    refine xr_isub (n := 19) dX8_sizeOf_18 rfl ?_
    try simp (disch := omega) only [nI_clamp, pk_mul, nI_add, oi1, up2_a, ur_a, Nat.reduceEqDiff, Nat.reduceMul, Nat.reduceAdd, reduceIte, if_pos, if_neg, g0, g1, g2, g3, g4, g5, g6]
    refine xr_goto (n := 23) dX8_sizeOf_19 (by decide) ?_
    refine xr_ireturn dX8_sizeOf_23 rfl rfl rfl ?_
    refine qi hq ?_
    first | (rw [if_neg (by ((try simp (disch := omega) only [i_lt, i_le, i_eq, nt, i_m1, Int32.toInt_zero] at *); omega))]; done) | (rw [if_pos (show 3 ≤ P s 0 by ((try simp (disch := omega) only [i_lt, i_le, i_eq, nt, i_m1, Int32.toInt_zero] at *); omega))]; exact (pk_sub (Nat.le_of_lt (k6 (by ((try simp (disch := omega) only [i_lt, i_le, i_eq, nt, i_m1, Int32.toInt_zero] at *); omega))).1)).symm)

theorem s_X8_sets {G : xG} {d : Nat} {f : Nat → xC} {r : Nat × Nat} {Q : Option Value → xM → Prop} {m : Nat} {μ : xS} {sd : Nat} {n s : Nat} {P : Nat → Nat → Nat} (hsd : sd ≤ 1) (hP : isPg (μ 5) n P) (hO : okP n P) (hs : s < n) (hq : Q none (mput f m (msets μ sd (P s 1) (P s 2) (P s 3) (P s 4)), r)) : xMet G (d + 1) mX8_sets [.ref m, .int (nI sd), .int (nI s)] (mput f m μ, r) r Q := by
  refine xMet_0 (by decide +kernel) rfl (Nat.le_of_ble_eq_true rfl) ?_
  show xX G (d + 1) mX8_sets r r (xΦ G r r Q) 0 [(0, .ref m), (1, .int (nI sd)), (2, .int (nI s))] [] (mput f m μ, r)
  have hn6 := hO.1
  obtain ⟨k0, k1, k2, k3, k4, k6, k5⟩ := hO.2 s hs
  unfold okT at k3 k4
  have g0 := hP.g (w := 0) hs (by omega)
  have g1 := hP.g (w := 1) hs (by omega)
  have g2 := hP.g (w := 2) hs (by omega)
  have g3 := hP.g (w := 3) hs (by omega)
  have g4 := hP.g (w := 4) hs (by omega)
  have g5 := hP.g (w := 5) hs (by omega)
  have g6 := hP.g (w := 6) hs (by omega)
  refine xr_aload_n (n := 1) dX8_sets_0 rfl rfl ?_
  refine xr_iload_n (n := 2) dX8_sets_1 rfl rfl ?_
  refine xr_aload_n (n := 3) dX8_sets_2 rfl rfl ?_
  refine xr_iload_n (n := 4) dX8_sets_3 rfl rfl ?_
  refine xr_iconst (v := nI 3) (n := 5) dX8_sets_4 (by decide) rfl ?_
  refine xr_callV (y2 := mX8_of) (As := [_, _]) (n := 8) dX8_sets_5 lm_X8_124 pm_X8_of pi_X8_of (by first | exact mput_0 _ _ _ | exact mput_r (by decide)) rfl rfl rfl (by simp [Value.category]) rfl ⟨Nat.le_refl _, Nat.le_refl _⟩ ?_
  refine s_X8_of (by omega) (by omega) ?_
  dsimp only [xK, xps]
  try simp (disch := omega) only [nI_clamp, pk_mul, nI_add, oi1, up2_a, ur_a, Nat.reduceEqDiff, Nat.reduceMul, Nat.reduceAdd, reduceIte, if_pos, if_neg, g0, g1, g2, g3, g4, g5, g6]
  refine xr_callV (y2 := mX8_term) (As := [_, _]) (n := 11) dX8_sets_8 lm_X8_146 pm_X8_term pi_X8_term (by first | exact mput_0 _ _ _ | exact mput_r (by decide)) rfl rfl rfl (by simp [Value.category]) rfl ⟨Nat.le_refl _, Nat.le_refl _⟩ ?_
  refine s_X8_term (by omega) (by omega) (by omega) ?_
  rw [show (if P s 3 < 10 then μ 9 (6 * sd + P s 3) else nI (P s 3 - 10)) = mterm μ sd (P s 3) from rfl]
  dsimp only [xK, xps]
  refine xr_istore_n (n := 12) dX8_sets_11 rfl rfl ?_
  dsimp only [xst, Nat.beq, List.filter, Bool.not_true, Bool.not_false]
  refine xr_aload_n (n := 13) dX8_sets_12 rfl rfl ?_
  refine xr_iload_n (n := 14) dX8_sets_13 rfl rfl ?_
  refine xr_iconst (v := nI 2) (n := 15) dX8_sets_14 (by decide) rfl ?_
  refine xr_callV (y2 := mX8_of) (As := [_, _]) (n := 18) dX8_sets_15 lm_X8_124 pm_X8_of pi_X8_of (by first | exact mput_0 _ _ _ | exact mput_r (by decide)) rfl rfl rfl (by simp [Value.category]) rfl ⟨Nat.le_refl _, Nat.le_refl _⟩ ?_
  refine s_X8_of (by omega) (by omega) ?_
  dsimp only [xK, xps]
  try simp (disch := omega) only [nI_clamp, pk_mul, nI_add, oi1, up2_a, ur_a, Nat.reduceEqDiff, Nat.reduceMul, Nat.reduceAdd, reduceIte, if_pos, if_neg, g0, g1, g2, g3, g4, g5, g6]
  refine xr_istore (n := 20) dX8_sets_18 rfl rfl ?_
  dsimp only [xst, Nat.beq, List.filter, Bool.not_true, Bool.not_false]
  refine xr_iload (n := 22) dX8_sets_20 rfl rfl ?_
  refine xr_if_ne (tgt := 29) (n := 25) dX8_sets_22 (by decide) rfl (fun h22 => ?_) (fun h22 => ?_)
  · refine xr_aload_n (n := 30) dX8_sets_29 rfl rfl ?_
    refine xr_iload_n (n := 31) dX8_sets_30 rfl rfl ?_
    refine xr_aload_n (n := 32) dX8_sets_31 rfl rfl ?_
    refine xr_iload_n (n := 33) dX8_sets_32 rfl rfl ?_
    refine xr_iconst (v := nI 4) (n := 34) dX8_sets_33 (by decide) rfl ?_
    refine xr_callV (y2 := mX8_of) (As := [_, _]) (n := 37) dX8_sets_34 lm_X8_124 pm_X8_of pi_X8_of (by first | exact mput_0 _ _ _ | exact mput_r (by decide)) rfl rfl rfl (by simp [Value.category]) rfl ⟨Nat.le_refl _, Nat.le_refl _⟩ ?_
    refine s_X8_of (by omega) (by omega) ?_
    dsimp only [xK, xps]
    try simp (disch := omega) only [nI_clamp, pk_mul, nI_add, oi1, up2_a, ur_a, Nat.reduceEqDiff, Nat.reduceMul, Nat.reduceAdd, reduceIte, if_pos, if_neg, g0, g1, g2, g3, g4, g5, g6]
    refine xr_callV (y2 := mX8_term) (As := [_, _]) (n := 40) dX8_sets_37 lm_X8_146 pm_X8_term pi_X8_term (by first | exact mput_0 _ _ _ | exact mput_r (by decide)) rfl rfl rfl (by simp [Value.category]) rfl ⟨Nat.le_refl _, Nat.le_refl _⟩ ?_
    refine s_X8_term (by omega) (by omega) (by omega) ?_
    rw [show (if P s 4 < 10 then μ 9 (6 * sd + P s 4) else nI (P s 4 - 10)) = mterm μ sd (P s 4) from rfl]
    dsimp only [xK, xps]
    refine xr_istore (n := 42) dX8_sets_40 rfl rfl ?_
    dsimp only [xst, Nat.beq, List.filter, Bool.not_true, Bool.not_false]
    refine xr_iload (n := 44) dX8_sets_42 rfl rfl ?_
    refine xr_if_ne (tgt := 51) (n := 47) dX8_sets_44 (by decide) rfl (fun h44 => ?_) (fun h44 => ?_)
    · refine xr_iload (n := 53) dX8_sets_51 rfl rfl ?_
      refine xr_bipush (v := nI 43) (n := 55) dX8_sets_53 (by decide) rfl ?_
      refine xr_icmp_ne (tgt := 65) (n := 58) dX8_sets_55 (by decide) rfl (fun h55 => ?_) (fun h55 => ?_)
      · refine xr_iload (n := 67) dX8_sets_65 rfl rfl ?_
        refine xr_bipush (v := nI 45) (n := 69) dX8_sets_67 (by decide) rfl ?_
        refine xr_icmp_ne (tgt := 79) (n := 72) dX8_sets_69 (by decide) rfl (fun h69 => ?_) (fun h69 => ?_)
        · refine xr_iload_n (n := 80) dX8_sets_79 rfl rfl ?_
          refine xr_iload (n := 82) dX8_sets_80 rfl rfl ?_
          refine xr_imul (n := 83) dX8_sets_82 rfl ?_
          try simp (disch := omega) only [nI_clamp, pk_mul, nI_add, oi1, up2_a, ur_a, Nat.reduceEqDiff, Nat.reduceMul, Nat.reduceAdd, reduceIte, if_pos, if_neg, g0, g1, g2, g3, g4, g5, g6]
          refine xr_istore (n := 85) dX8_sets_83 rfl rfl ?_
          dsimp only [xst, Nat.beq, List.filter, Bool.not_true, Bool.not_false]
          refine xr_aload_n (n := 86) dX8_sets_85 rfl rfl ?_
          refine xr_get (n := 89) dX8_sets_86 fl_X8_28 (by first | exact mput_0 _ _ _ | exact mput_r (by decide)) (by rfl) rfl ?_
          refine xr_bipush (v := nI 6) (n := 91) dX8_sets_89 (by decide) rfl ?_
          refine xr_iload_n (n := 92) dX8_sets_91 rfl rfl ?_
          refine xr_imul (n := 93) dX8_sets_92 rfl ?_
          try simp (disch := omega) only [nI_clamp, pk_mul, nI_add, oi1, up2_a, ur_a, Nat.reduceEqDiff, Nat.reduceMul, Nat.reduceAdd, reduceIte, if_pos, if_neg, g0, g1, g2, g3, g4, g5, g6]
          refine xr_aload_n (n := 94) dX8_sets_93 rfl rfl ?_
          refine xr_iload_n (n := 95) dX8_sets_94 rfl rfl ?_
          refine xr_iconst (v := nI 1) (n := 96) dX8_sets_95 (by decide) rfl ?_
          refine xr_callV (y2 := mX8_of) (As := [_, _]) (n := 99) dX8_sets_96 lm_X8_124 pm_X8_of pi_X8_of (by first | exact mput_0 _ _ _ | exact mput_r (by decide)) rfl rfl rfl (by simp [Value.category]) rfl ⟨Nat.le_refl _, Nat.le_refl _⟩ ?_
          refine s_X8_of (by omega) (by omega) ?_
          dsimp only [xK, xps]
          try simp (disch := omega) only [nI_clamp, pk_mul, nI_add, oi1, up2_a, ur_a, Nat.reduceEqDiff, Nat.reduceMul, Nat.reduceAdd, reduceIte, if_pos, if_neg, g0, g1, g2, g3, g4, g5, g6]
          refine xr_iadd (n := 100) dX8_sets_99 rfl ?_
          try simp (disch := omega) only [nI_clamp, pk_mul, nI_add, oi1, up2_a, ur_a, Nat.reduceEqDiff, Nat.reduceMul, Nat.reduceAdd, reduceIte, if_pos, if_neg, g0, g1, g2, g3, g4, g5, g6]
          refine xr_iload (n := 102) dX8_sets_100 rfl rfl ?_
          refine xr_callS (y2 := mX8_held) (As := [_]) (n := 105) dX8_sets_102 lm_X8_149 pm_X8_held kp_static_yX8_held rfl rfl (by simp [Value.category]) rfl ⟨Nat.le_refl _, Nat.le_refl _⟩ ?_
          refine s_X8_held ?_
          dsimp only [xK, xps]
          refine xq_iastore (n := 106) dX8_sets_105 (by first | exact mput_0 _ _ _ | exact mput_r (by decide)) (by first | exact vp_in_nI (by omega) (by omega)) rfl ?_
          simp (disch := omega) only [nI_clamp, List.set, mw_0, mw_1, mw_2, mw_3, mw_4, mw_5, mw_6, mw_7, mw_8, mw_9, mw_10, mw_11, mw_12, mw_13, mw_14, mw_15, mw_16, mw_17, mw_18, mw_19]
          refine xr_return dX8_sets_106 rfl rfl ?_
          refine qm hq ?_
          unfold msets mval
          first | (exfalso; first | exact h44 h22 | exact h22 h44) | (rw [if_pos (by ((try simp (disch := omega) only [i_lt, i_le, i_eq, nt, i_m1, Int32.toInt_zero] at *); omega))]; done) | (rw [if_neg (by ((try simp (disch := omega) only [i_lt, i_le, i_eq, nt, i_m1, Int32.toInt_zero] at *); omega)), if_pos (by ((try simp (disch := omega) only [i_lt, i_le, i_eq, nt, i_m1, Int32.toInt_zero] at *); omega))]; done) | (rw [if_neg (by ((try simp (disch := omega) only [i_lt, i_le, i_eq, nt, i_m1, Int32.toInt_zero] at *); omega)), if_neg (by ((try simp (disch := omega) only [i_lt, i_le, i_eq, nt, i_m1, Int32.toInt_zero] at *); omega)), if_pos (by ((try simp (disch := omega) only [i_lt, i_le, i_eq, nt, i_m1, Int32.toInt_zero] at *); omega))]; done) | (rw [if_neg (by ((try simp (disch := omega) only [i_lt, i_le, i_eq, nt, i_m1, Int32.toInt_zero] at *); omega)), if_neg (by ((try simp (disch := omega) only [i_lt, i_le, i_eq, nt, i_m1, Int32.toInt_zero] at *); omega)), if_neg (by ((try simp (disch := omega) only [i_lt, i_le, i_eq, nt, i_m1, Int32.toInt_zero] at *); omega))]; done)
        · refine xr_iload_n (n := 73) dX8_sets_72 rfl rfl ?_
          refine xr_iload (n := 75) dX8_sets_73 rfl rfl ?_
          refine xr_isub (n := 76) dX8_sets_75 rfl ?_
          try simp (disch := omega) only [nI_clamp, pk_mul, nI_add, oi1, up2_a, ur_a, Nat.reduceEqDiff, Nat.reduceMul, Nat.reduceAdd, reduceIte, if_pos, if_neg, g0, g1, g2, g3, g4, g5, g6]
          refine xr_goto (n := 83) dX8_sets_76 (by decide) ?_
          refine xr_istore (n := 85) dX8_sets_83 rfl rfl ?_
          dsimp only [xst, Nat.beq, List.filter, Bool.not_true, Bool.not_false]
          refine xr_aload_n (n := 86) dX8_sets_85 rfl rfl ?_
          refine xr_get (n := 89) dX8_sets_86 fl_X8_28 (by first | exact mput_0 _ _ _ | exact mput_r (by decide)) (by rfl) rfl ?_
          refine xr_bipush (v := nI 6) (n := 91) dX8_sets_89 (by decide) rfl ?_
          refine xr_iload_n (n := 92) dX8_sets_91 rfl rfl ?_
          refine xr_imul (n := 93) dX8_sets_92 rfl ?_
          try simp (disch := omega) only [nI_clamp, pk_mul, nI_add, oi1, up2_a, ur_a, Nat.reduceEqDiff, Nat.reduceMul, Nat.reduceAdd, reduceIte, if_pos, if_neg, g0, g1, g2, g3, g4, g5, g6]
          refine xr_aload_n (n := 94) dX8_sets_93 rfl rfl ?_
          refine xr_iload_n (n := 95) dX8_sets_94 rfl rfl ?_
          refine xr_iconst (v := nI 1) (n := 96) dX8_sets_95 (by decide) rfl ?_
          refine xr_callV (y2 := mX8_of) (As := [_, _]) (n := 99) dX8_sets_96 lm_X8_124 pm_X8_of pi_X8_of (by first | exact mput_0 _ _ _ | exact mput_r (by decide)) rfl rfl rfl (by simp [Value.category]) rfl ⟨Nat.le_refl _, Nat.le_refl _⟩ ?_
          refine s_X8_of (by omega) (by omega) ?_
          dsimp only [xK, xps]
          try simp (disch := omega) only [nI_clamp, pk_mul, nI_add, oi1, up2_a, ur_a, Nat.reduceEqDiff, Nat.reduceMul, Nat.reduceAdd, reduceIte, if_pos, if_neg, g0, g1, g2, g3, g4, g5, g6]
          refine xr_iadd (n := 100) dX8_sets_99 rfl ?_
          try simp (disch := omega) only [nI_clamp, pk_mul, nI_add, oi1, up2_a, ur_a, Nat.reduceEqDiff, Nat.reduceMul, Nat.reduceAdd, reduceIte, if_pos, if_neg, g0, g1, g2, g3, g4, g5, g6]
          refine xr_iload (n := 102) dX8_sets_100 rfl rfl ?_
          refine xr_callS (y2 := mX8_held) (As := [_]) (n := 105) dX8_sets_102 lm_X8_149 pm_X8_held kp_static_yX8_held rfl rfl (by simp [Value.category]) rfl ⟨Nat.le_refl _, Nat.le_refl _⟩ ?_
          refine s_X8_held ?_
          dsimp only [xK, xps]
          refine xq_iastore (n := 106) dX8_sets_105 (by first | exact mput_0 _ _ _ | exact mput_r (by decide)) (by first | exact vp_in_nI (by omega) (by omega)) rfl ?_
          simp (disch := omega) only [nI_clamp, List.set, mw_0, mw_1, mw_2, mw_3, mw_4, mw_5, mw_6, mw_7, mw_8, mw_9, mw_10, mw_11, mw_12, mw_13, mw_14, mw_15, mw_16, mw_17, mw_18, mw_19]
          refine xr_return dX8_sets_106 rfl rfl ?_
          refine qm hq ?_
          unfold msets mval
          first | (exfalso; first | exact h44 h22 | exact h22 h44) | (rw [if_pos (by ((try simp (disch := omega) only [i_lt, i_le, i_eq, nt, i_m1, Int32.toInt_zero] at *); omega))]; done) | (rw [if_neg (by ((try simp (disch := omega) only [i_lt, i_le, i_eq, nt, i_m1, Int32.toInt_zero] at *); omega)), if_pos (by ((try simp (disch := omega) only [i_lt, i_le, i_eq, nt, i_m1, Int32.toInt_zero] at *); omega))]; done) | (rw [if_neg (by ((try simp (disch := omega) only [i_lt, i_le, i_eq, nt, i_m1, Int32.toInt_zero] at *); omega)), if_neg (by ((try simp (disch := omega) only [i_lt, i_le, i_eq, nt, i_m1, Int32.toInt_zero] at *); omega)), if_pos (by ((try simp (disch := omega) only [i_lt, i_le, i_eq, nt, i_m1, Int32.toInt_zero] at *); omega))]; done) | (rw [if_neg (by ((try simp (disch := omega) only [i_lt, i_le, i_eq, nt, i_m1, Int32.toInt_zero] at *); omega)), if_neg (by ((try simp (disch := omega) only [i_lt, i_le, i_eq, nt, i_m1, Int32.toInt_zero] at *); omega)), if_neg (by ((try simp (disch := omega) only [i_lt, i_le, i_eq, nt, i_m1, Int32.toInt_zero] at *); omega))]; done)
      · refine xr_iload_n (n := 59) dX8_sets_58 rfl rfl ?_
        refine xr_iload (n := 61) dX8_sets_59 rfl rfl ?_
        refine xr_iadd (n := 62) dX8_sets_61 rfl ?_
        try simp (disch := omega) only [nI_clamp, pk_mul, nI_add, oi1, up2_a, ur_a, Nat.reduceEqDiff, Nat.reduceMul, Nat.reduceAdd, reduceIte, if_pos, if_neg, g0, g1, g2, g3, g4, g5, g6]
        refine xr_goto (n := 83) dX8_sets_62 (by decide) ?_
        refine xr_istore (n := 85) dX8_sets_83 rfl rfl ?_
        dsimp only [xst, Nat.beq, List.filter, Bool.not_true, Bool.not_false]
        refine xr_aload_n (n := 86) dX8_sets_85 rfl rfl ?_
        refine xr_get (n := 89) dX8_sets_86 fl_X8_28 (by first | exact mput_0 _ _ _ | exact mput_r (by decide)) (by rfl) rfl ?_
        refine xr_bipush (v := nI 6) (n := 91) dX8_sets_89 (by decide) rfl ?_
        refine xr_iload_n (n := 92) dX8_sets_91 rfl rfl ?_
        refine xr_imul (n := 93) dX8_sets_92 rfl ?_
        try simp (disch := omega) only [nI_clamp, pk_mul, nI_add, oi1, up2_a, ur_a, Nat.reduceEqDiff, Nat.reduceMul, Nat.reduceAdd, reduceIte, if_pos, if_neg, g0, g1, g2, g3, g4, g5, g6]
        refine xr_aload_n (n := 94) dX8_sets_93 rfl rfl ?_
        refine xr_iload_n (n := 95) dX8_sets_94 rfl rfl ?_
        refine xr_iconst (v := nI 1) (n := 96) dX8_sets_95 (by decide) rfl ?_
        refine xr_callV (y2 := mX8_of) (As := [_, _]) (n := 99) dX8_sets_96 lm_X8_124 pm_X8_of pi_X8_of (by first | exact mput_0 _ _ _ | exact mput_r (by decide)) rfl rfl rfl (by simp [Value.category]) rfl ⟨Nat.le_refl _, Nat.le_refl _⟩ ?_
        refine s_X8_of (by omega) (by omega) ?_
        dsimp only [xK, xps]
        try simp (disch := omega) only [nI_clamp, pk_mul, nI_add, oi1, up2_a, ur_a, Nat.reduceEqDiff, Nat.reduceMul, Nat.reduceAdd, reduceIte, if_pos, if_neg, g0, g1, g2, g3, g4, g5, g6]
        refine xr_iadd (n := 100) dX8_sets_99 rfl ?_
        try simp (disch := omega) only [nI_clamp, pk_mul, nI_add, oi1, up2_a, ur_a, Nat.reduceEqDiff, Nat.reduceMul, Nat.reduceAdd, reduceIte, if_pos, if_neg, g0, g1, g2, g3, g4, g5, g6]
        refine xr_iload (n := 102) dX8_sets_100 rfl rfl ?_
        refine xr_callS (y2 := mX8_held) (As := [_]) (n := 105) dX8_sets_102 lm_X8_149 pm_X8_held kp_static_yX8_held rfl rfl (by simp [Value.category]) rfl ⟨Nat.le_refl _, Nat.le_refl _⟩ ?_
        refine s_X8_held ?_
        dsimp only [xK, xps]
        refine xq_iastore (n := 106) dX8_sets_105 (by first | exact mput_0 _ _ _ | exact mput_r (by decide)) (by first | exact vp_in_nI (by omega) (by omega)) rfl ?_
        simp (disch := omega) only [nI_clamp, List.set, mw_0, mw_1, mw_2, mw_3, mw_4, mw_5, mw_6, mw_7, mw_8, mw_9, mw_10, mw_11, mw_12, mw_13, mw_14, mw_15, mw_16, mw_17, mw_18, mw_19]
        refine xr_return dX8_sets_106 rfl rfl ?_
        refine qm hq ?_
        unfold msets mval
        first | (exfalso; first | exact h44 h22 | exact h22 h44) | (rw [if_pos (by ((try simp (disch := omega) only [i_lt, i_le, i_eq, nt, i_m1, Int32.toInt_zero] at *); omega))]; done) | (rw [if_neg (by ((try simp (disch := omega) only [i_lt, i_le, i_eq, nt, i_m1, Int32.toInt_zero] at *); omega)), if_pos (by ((try simp (disch := omega) only [i_lt, i_le, i_eq, nt, i_m1, Int32.toInt_zero] at *); omega))]; done) | (rw [if_neg (by ((try simp (disch := omega) only [i_lt, i_le, i_eq, nt, i_m1, Int32.toInt_zero] at *); omega)), if_neg (by ((try simp (disch := omega) only [i_lt, i_le, i_eq, nt, i_m1, Int32.toInt_zero] at *); omega)), if_pos (by ((try simp (disch := omega) only [i_lt, i_le, i_eq, nt, i_m1, Int32.toInt_zero] at *); omega))]; done) | (rw [if_neg (by ((try simp (disch := omega) only [i_lt, i_le, i_eq, nt, i_m1, Int32.toInt_zero] at *); omega)), if_neg (by ((try simp (disch := omega) only [i_lt, i_le, i_eq, nt, i_m1, Int32.toInt_zero] at *); omega)), if_neg (by ((try simp (disch := omega) only [i_lt, i_le, i_eq, nt, i_m1, Int32.toInt_zero] at *); omega))]; done)
    · refine xr_iload_n (n := 48) dX8_sets_47 rfl rfl ?_
      refine xr_goto (n := 83) dX8_sets_48 (by decide) ?_
      refine xr_istore (n := 85) dX8_sets_83 rfl rfl ?_
      dsimp only [xst, Nat.beq, List.filter, Bool.not_true, Bool.not_false]
      refine xr_aload_n (n := 86) dX8_sets_85 rfl rfl ?_
      refine xr_get (n := 89) dX8_sets_86 fl_X8_28 (by first | exact mput_0 _ _ _ | exact mput_r (by decide)) (by rfl) rfl ?_
      refine xr_bipush (v := nI 6) (n := 91) dX8_sets_89 (by decide) rfl ?_
      refine xr_iload_n (n := 92) dX8_sets_91 rfl rfl ?_
      refine xr_imul (n := 93) dX8_sets_92 rfl ?_
      try simp (disch := omega) only [nI_clamp, pk_mul, nI_add, oi1, up2_a, ur_a, Nat.reduceEqDiff, Nat.reduceMul, Nat.reduceAdd, reduceIte, if_pos, if_neg, g0, g1, g2, g3, g4, g5, g6]
      refine xr_aload_n (n := 94) dX8_sets_93 rfl rfl ?_
      refine xr_iload_n (n := 95) dX8_sets_94 rfl rfl ?_
      refine xr_iconst (v := nI 1) (n := 96) dX8_sets_95 (by decide) rfl ?_
      refine xr_callV (y2 := mX8_of) (As := [_, _]) (n := 99) dX8_sets_96 lm_X8_124 pm_X8_of pi_X8_of (by first | exact mput_0 _ _ _ | exact mput_r (by decide)) rfl rfl rfl (by simp [Value.category]) rfl ⟨Nat.le_refl _, Nat.le_refl _⟩ ?_
      refine s_X8_of (by omega) (by omega) ?_
      dsimp only [xK, xps]
      try simp (disch := omega) only [nI_clamp, pk_mul, nI_add, oi1, up2_a, ur_a, Nat.reduceEqDiff, Nat.reduceMul, Nat.reduceAdd, reduceIte, if_pos, if_neg, g0, g1, g2, g3, g4, g5, g6]
      refine xr_iadd (n := 100) dX8_sets_99 rfl ?_
      try simp (disch := omega) only [nI_clamp, pk_mul, nI_add, oi1, up2_a, ur_a, Nat.reduceEqDiff, Nat.reduceMul, Nat.reduceAdd, reduceIte, if_pos, if_neg, g0, g1, g2, g3, g4, g5, g6]
      refine xr_iload (n := 102) dX8_sets_100 rfl rfl ?_
      refine xr_callS (y2 := mX8_held) (As := [_]) (n := 105) dX8_sets_102 lm_X8_149 pm_X8_held kp_static_yX8_held rfl rfl (by simp [Value.category]) rfl ⟨Nat.le_refl _, Nat.le_refl _⟩ ?_
      refine s_X8_held ?_
      dsimp only [xK, xps]
      refine xq_iastore (n := 106) dX8_sets_105 (by first | exact mput_0 _ _ _ | exact mput_r (by decide)) (by first | exact vp_in_nI (by omega) (by omega)) rfl ?_
      simp (disch := omega) only [nI_clamp, List.set, mw_0, mw_1, mw_2, mw_3, mw_4, mw_5, mw_6, mw_7, mw_8, mw_9, mw_10, mw_11, mw_12, mw_13, mw_14, mw_15, mw_16, mw_17, mw_18, mw_19]
      refine xr_return dX8_sets_106 rfl rfl ?_
      refine qm hq ?_
      unfold msets mval
      first | (exfalso; first | exact h44 h22 | exact h22 h44) | (rw [if_pos (by ((try simp (disch := omega) only [i_lt, i_le, i_eq, nt, i_m1, Int32.toInt_zero] at *); omega))]; done) | (rw [if_neg (by ((try simp (disch := omega) only [i_lt, i_le, i_eq, nt, i_m1, Int32.toInt_zero] at *); omega)), if_pos (by ((try simp (disch := omega) only [i_lt, i_le, i_eq, nt, i_m1, Int32.toInt_zero] at *); omega))]; done) | (rw [if_neg (by ((try simp (disch := omega) only [i_lt, i_le, i_eq, nt, i_m1, Int32.toInt_zero] at *); omega)), if_neg (by ((try simp (disch := omega) only [i_lt, i_le, i_eq, nt, i_m1, Int32.toInt_zero] at *); omega)), if_pos (by ((try simp (disch := omega) only [i_lt, i_le, i_eq, nt, i_m1, Int32.toInt_zero] at *); omega))]; done) | (rw [if_neg (by ((try simp (disch := omega) only [i_lt, i_le, i_eq, nt, i_m1, Int32.toInt_zero] at *); omega)), if_neg (by ((try simp (disch := omega) only [i_lt, i_le, i_eq, nt, i_m1, Int32.toInt_zero] at *); omega)), if_neg (by ((try simp (disch := omega) only [i_lt, i_le, i_eq, nt, i_m1, Int32.toInt_zero] at *); omega))]; done)
  · refine xr_iconst (v := nI 0) (n := 26) dX8_sets_25 (by decide) rfl ?_
    refine xr_goto (n := 40) dX8_sets_26 (by decide) ?_
    refine xr_istore (n := 42) dX8_sets_40 rfl rfl ?_
    dsimp only [xst, Nat.beq, List.filter, Bool.not_true, Bool.not_false]
    refine xr_iload (n := 44) dX8_sets_42 rfl rfl ?_
    refine xr_if_ne (tgt := 51) (n := 47) dX8_sets_44 (by decide) rfl (fun h44 => ?_) (fun h44 => ?_)
    · refine xr_iload (n := 53) dX8_sets_51 rfl rfl ?_
      refine xr_bipush (v := nI 43) (n := 55) dX8_sets_53 (by decide) rfl ?_
      refine xr_icmp_ne (tgt := 65) (n := 58) dX8_sets_55 (by decide) rfl (fun h55 => ?_) (fun h55 => ?_)
      · refine xr_iload (n := 67) dX8_sets_65 rfl rfl ?_
        refine xr_bipush (v := nI 45) (n := 69) dX8_sets_67 (by decide) rfl ?_
        refine xr_icmp_ne (tgt := 79) (n := 72) dX8_sets_69 (by decide) rfl (fun h69 => ?_) (fun h69 => ?_)
        · refine xr_iload_n (n := 80) dX8_sets_79 rfl rfl ?_
          refine xr_iload (n := 82) dX8_sets_80 rfl rfl ?_
          refine xr_imul (n := 83) dX8_sets_82 rfl ?_
          try simp (disch := omega) only [nI_clamp, pk_mul, nI_add, oi1, up2_a, ur_a, Nat.reduceEqDiff, Nat.reduceMul, Nat.reduceAdd, reduceIte, if_pos, if_neg, g0, g1, g2, g3, g4, g5, g6]
          refine xr_istore (n := 85) dX8_sets_83 rfl rfl ?_
          dsimp only [xst, Nat.beq, List.filter, Bool.not_true, Bool.not_false]
          refine xr_aload_n (n := 86) dX8_sets_85 rfl rfl ?_
          refine xr_get (n := 89) dX8_sets_86 fl_X8_28 (by first | exact mput_0 _ _ _ | exact mput_r (by decide)) (by rfl) rfl ?_
          refine xr_bipush (v := nI 6) (n := 91) dX8_sets_89 (by decide) rfl ?_
          refine xr_iload_n (n := 92) dX8_sets_91 rfl rfl ?_
          refine xr_imul (n := 93) dX8_sets_92 rfl ?_
          try simp (disch := omega) only [nI_clamp, pk_mul, nI_add, oi1, up2_a, ur_a, Nat.reduceEqDiff, Nat.reduceMul, Nat.reduceAdd, reduceIte, if_pos, if_neg, g0, g1, g2, g3, g4, g5, g6]
          refine xr_aload_n (n := 94) dX8_sets_93 rfl rfl ?_
          refine xr_iload_n (n := 95) dX8_sets_94 rfl rfl ?_
          refine xr_iconst (v := nI 1) (n := 96) dX8_sets_95 (by decide) rfl ?_
          refine xr_callV (y2 := mX8_of) (As := [_, _]) (n := 99) dX8_sets_96 lm_X8_124 pm_X8_of pi_X8_of (by first | exact mput_0 _ _ _ | exact mput_r (by decide)) rfl rfl rfl (by simp [Value.category]) rfl ⟨Nat.le_refl _, Nat.le_refl _⟩ ?_
          refine s_X8_of (by omega) (by omega) ?_
          dsimp only [xK, xps]
          try simp (disch := omega) only [nI_clamp, pk_mul, nI_add, oi1, up2_a, ur_a, Nat.reduceEqDiff, Nat.reduceMul, Nat.reduceAdd, reduceIte, if_pos, if_neg, g0, g1, g2, g3, g4, g5, g6]
          refine xr_iadd (n := 100) dX8_sets_99 rfl ?_
          try simp (disch := omega) only [nI_clamp, pk_mul, nI_add, oi1, up2_a, ur_a, Nat.reduceEqDiff, Nat.reduceMul, Nat.reduceAdd, reduceIte, if_pos, if_neg, g0, g1, g2, g3, g4, g5, g6]
          refine xr_iload (n := 102) dX8_sets_100 rfl rfl ?_
          refine xr_callS (y2 := mX8_held) (As := [_]) (n := 105) dX8_sets_102 lm_X8_149 pm_X8_held kp_static_yX8_held rfl rfl (by simp [Value.category]) rfl ⟨Nat.le_refl _, Nat.le_refl _⟩ ?_
          refine s_X8_held ?_
          dsimp only [xK, xps]
          refine xq_iastore (n := 106) dX8_sets_105 (by first | exact mput_0 _ _ _ | exact mput_r (by decide)) (by first | exact vp_in_nI (by omega) (by omega)) rfl ?_
          simp (disch := omega) only [nI_clamp, List.set, mw_0, mw_1, mw_2, mw_3, mw_4, mw_5, mw_6, mw_7, mw_8, mw_9, mw_10, mw_11, mw_12, mw_13, mw_14, mw_15, mw_16, mw_17, mw_18, mw_19]
          refine xr_return dX8_sets_106 rfl rfl ?_
          refine qm hq ?_
          unfold msets mval
          first | (exfalso; first | exact h44 h22 | exact h22 h44) | (rw [if_pos (by ((try simp (disch := omega) only [i_lt, i_le, i_eq, nt, i_m1, Int32.toInt_zero] at *); omega))]; done) | (rw [if_neg (by ((try simp (disch := omega) only [i_lt, i_le, i_eq, nt, i_m1, Int32.toInt_zero] at *); omega)), if_pos (by ((try simp (disch := omega) only [i_lt, i_le, i_eq, nt, i_m1, Int32.toInt_zero] at *); omega))]; done) | (rw [if_neg (by ((try simp (disch := omega) only [i_lt, i_le, i_eq, nt, i_m1, Int32.toInt_zero] at *); omega)), if_neg (by ((try simp (disch := omega) only [i_lt, i_le, i_eq, nt, i_m1, Int32.toInt_zero] at *); omega)), if_pos (by ((try simp (disch := omega) only [i_lt, i_le, i_eq, nt, i_m1, Int32.toInt_zero] at *); omega))]; done) | (rw [if_neg (by ((try simp (disch := omega) only [i_lt, i_le, i_eq, nt, i_m1, Int32.toInt_zero] at *); omega)), if_neg (by ((try simp (disch := omega) only [i_lt, i_le, i_eq, nt, i_m1, Int32.toInt_zero] at *); omega)), if_neg (by ((try simp (disch := omega) only [i_lt, i_le, i_eq, nt, i_m1, Int32.toInt_zero] at *); omega))]; done)
        · refine xr_iload_n (n := 73) dX8_sets_72 rfl rfl ?_
          refine xr_iload (n := 75) dX8_sets_73 rfl rfl ?_
          refine xr_isub (n := 76) dX8_sets_75 rfl ?_
          try simp (disch := omega) only [nI_clamp, pk_mul, nI_add, oi1, up2_a, ur_a, Nat.reduceEqDiff, Nat.reduceMul, Nat.reduceAdd, reduceIte, if_pos, if_neg, g0, g1, g2, g3, g4, g5, g6]
          refine xr_goto (n := 83) dX8_sets_76 (by decide) ?_
          refine xr_istore (n := 85) dX8_sets_83 rfl rfl ?_
          dsimp only [xst, Nat.beq, List.filter, Bool.not_true, Bool.not_false]
          refine xr_aload_n (n := 86) dX8_sets_85 rfl rfl ?_
          refine xr_get (n := 89) dX8_sets_86 fl_X8_28 (by first | exact mput_0 _ _ _ | exact mput_r (by decide)) (by rfl) rfl ?_
          refine xr_bipush (v := nI 6) (n := 91) dX8_sets_89 (by decide) rfl ?_
          refine xr_iload_n (n := 92) dX8_sets_91 rfl rfl ?_
          refine xr_imul (n := 93) dX8_sets_92 rfl ?_
          try simp (disch := omega) only [nI_clamp, pk_mul, nI_add, oi1, up2_a, ur_a, Nat.reduceEqDiff, Nat.reduceMul, Nat.reduceAdd, reduceIte, if_pos, if_neg, g0, g1, g2, g3, g4, g5, g6]
          refine xr_aload_n (n := 94) dX8_sets_93 rfl rfl ?_
          refine xr_iload_n (n := 95) dX8_sets_94 rfl rfl ?_
          refine xr_iconst (v := nI 1) (n := 96) dX8_sets_95 (by decide) rfl ?_
          refine xr_callV (y2 := mX8_of) (As := [_, _]) (n := 99) dX8_sets_96 lm_X8_124 pm_X8_of pi_X8_of (by first | exact mput_0 _ _ _ | exact mput_r (by decide)) rfl rfl rfl (by simp [Value.category]) rfl ⟨Nat.le_refl _, Nat.le_refl _⟩ ?_
          refine s_X8_of (by omega) (by omega) ?_
          dsimp only [xK, xps]
          try simp (disch := omega) only [nI_clamp, pk_mul, nI_add, oi1, up2_a, ur_a, Nat.reduceEqDiff, Nat.reduceMul, Nat.reduceAdd, reduceIte, if_pos, if_neg, g0, g1, g2, g3, g4, g5, g6]
          refine xr_iadd (n := 100) dX8_sets_99 rfl ?_
          try simp (disch := omega) only [nI_clamp, pk_mul, nI_add, oi1, up2_a, ur_a, Nat.reduceEqDiff, Nat.reduceMul, Nat.reduceAdd, reduceIte, if_pos, if_neg, g0, g1, g2, g3, g4, g5, g6]
          refine xr_iload (n := 102) dX8_sets_100 rfl rfl ?_
          refine xr_callS (y2 := mX8_held) (As := [_]) (n := 105) dX8_sets_102 lm_X8_149 pm_X8_held kp_static_yX8_held rfl rfl (by simp [Value.category]) rfl ⟨Nat.le_refl _, Nat.le_refl _⟩ ?_
          refine s_X8_held ?_
          dsimp only [xK, xps]
          refine xq_iastore (n := 106) dX8_sets_105 (by first | exact mput_0 _ _ _ | exact mput_r (by decide)) (by first | exact vp_in_nI (by omega) (by omega)) rfl ?_
          simp (disch := omega) only [nI_clamp, List.set, mw_0, mw_1, mw_2, mw_3, mw_4, mw_5, mw_6, mw_7, mw_8, mw_9, mw_10, mw_11, mw_12, mw_13, mw_14, mw_15, mw_16, mw_17, mw_18, mw_19]
          refine xr_return dX8_sets_106 rfl rfl ?_
          refine qm hq ?_
          unfold msets mval
          first | (exfalso; first | exact h44 h22 | exact h22 h44) | (rw [if_pos (by ((try simp (disch := omega) only [i_lt, i_le, i_eq, nt, i_m1, Int32.toInt_zero] at *); omega))]; done) | (rw [if_neg (by ((try simp (disch := omega) only [i_lt, i_le, i_eq, nt, i_m1, Int32.toInt_zero] at *); omega)), if_pos (by ((try simp (disch := omega) only [i_lt, i_le, i_eq, nt, i_m1, Int32.toInt_zero] at *); omega))]; done) | (rw [if_neg (by ((try simp (disch := omega) only [i_lt, i_le, i_eq, nt, i_m1, Int32.toInt_zero] at *); omega)), if_neg (by ((try simp (disch := omega) only [i_lt, i_le, i_eq, nt, i_m1, Int32.toInt_zero] at *); omega)), if_pos (by ((try simp (disch := omega) only [i_lt, i_le, i_eq, nt, i_m1, Int32.toInt_zero] at *); omega))]; done) | (rw [if_neg (by ((try simp (disch := omega) only [i_lt, i_le, i_eq, nt, i_m1, Int32.toInt_zero] at *); omega)), if_neg (by ((try simp (disch := omega) only [i_lt, i_le, i_eq, nt, i_m1, Int32.toInt_zero] at *); omega)), if_neg (by ((try simp (disch := omega) only [i_lt, i_le, i_eq, nt, i_m1, Int32.toInt_zero] at *); omega))]; done)
      · refine xr_iload_n (n := 59) dX8_sets_58 rfl rfl ?_
        refine xr_iload (n := 61) dX8_sets_59 rfl rfl ?_
        refine xr_iadd (n := 62) dX8_sets_61 rfl ?_
        try simp (disch := omega) only [nI_clamp, pk_mul, nI_add, oi1, up2_a, ur_a, Nat.reduceEqDiff, Nat.reduceMul, Nat.reduceAdd, reduceIte, if_pos, if_neg, g0, g1, g2, g3, g4, g5, g6]
        refine xr_goto (n := 83) dX8_sets_62 (by decide) ?_
        refine xr_istore (n := 85) dX8_sets_83 rfl rfl ?_
        dsimp only [xst, Nat.beq, List.filter, Bool.not_true, Bool.not_false]
        refine xr_aload_n (n := 86) dX8_sets_85 rfl rfl ?_
        refine xr_get (n := 89) dX8_sets_86 fl_X8_28 (by first | exact mput_0 _ _ _ | exact mput_r (by decide)) (by rfl) rfl ?_
        refine xr_bipush (v := nI 6) (n := 91) dX8_sets_89 (by decide) rfl ?_
        refine xr_iload_n (n := 92) dX8_sets_91 rfl rfl ?_
        refine xr_imul (n := 93) dX8_sets_92 rfl ?_
        try simp (disch := omega) only [nI_clamp, pk_mul, nI_add, oi1, up2_a, ur_a, Nat.reduceEqDiff, Nat.reduceMul, Nat.reduceAdd, reduceIte, if_pos, if_neg, g0, g1, g2, g3, g4, g5, g6]
        refine xr_aload_n (n := 94) dX8_sets_93 rfl rfl ?_
        refine xr_iload_n (n := 95) dX8_sets_94 rfl rfl ?_
        refine xr_iconst (v := nI 1) (n := 96) dX8_sets_95 (by decide) rfl ?_
        refine xr_callV (y2 := mX8_of) (As := [_, _]) (n := 99) dX8_sets_96 lm_X8_124 pm_X8_of pi_X8_of (by first | exact mput_0 _ _ _ | exact mput_r (by decide)) rfl rfl rfl (by simp [Value.category]) rfl ⟨Nat.le_refl _, Nat.le_refl _⟩ ?_
        refine s_X8_of (by omega) (by omega) ?_
        dsimp only [xK, xps]
        try simp (disch := omega) only [nI_clamp, pk_mul, nI_add, oi1, up2_a, ur_a, Nat.reduceEqDiff, Nat.reduceMul, Nat.reduceAdd, reduceIte, if_pos, if_neg, g0, g1, g2, g3, g4, g5, g6]
        refine xr_iadd (n := 100) dX8_sets_99 rfl ?_
        try simp (disch := omega) only [nI_clamp, pk_mul, nI_add, oi1, up2_a, ur_a, Nat.reduceEqDiff, Nat.reduceMul, Nat.reduceAdd, reduceIte, if_pos, if_neg, g0, g1, g2, g3, g4, g5, g6]
        refine xr_iload (n := 102) dX8_sets_100 rfl rfl ?_
        refine xr_callS (y2 := mX8_held) (As := [_]) (n := 105) dX8_sets_102 lm_X8_149 pm_X8_held kp_static_yX8_held rfl rfl (by simp [Value.category]) rfl ⟨Nat.le_refl _, Nat.le_refl _⟩ ?_
        refine s_X8_held ?_
        dsimp only [xK, xps]
        refine xq_iastore (n := 106) dX8_sets_105 (by first | exact mput_0 _ _ _ | exact mput_r (by decide)) (by first | exact vp_in_nI (by omega) (by omega)) rfl ?_
        simp (disch := omega) only [nI_clamp, List.set, mw_0, mw_1, mw_2, mw_3, mw_4, mw_5, mw_6, mw_7, mw_8, mw_9, mw_10, mw_11, mw_12, mw_13, mw_14, mw_15, mw_16, mw_17, mw_18, mw_19]
        refine xr_return dX8_sets_106 rfl rfl ?_
        refine qm hq ?_
        unfold msets mval
        first | (exfalso; first | exact h44 h22 | exact h22 h44) | (rw [if_pos (by ((try simp (disch := omega) only [i_lt, i_le, i_eq, nt, i_m1, Int32.toInt_zero] at *); omega))]; done) | (rw [if_neg (by ((try simp (disch := omega) only [i_lt, i_le, i_eq, nt, i_m1, Int32.toInt_zero] at *); omega)), if_pos (by ((try simp (disch := omega) only [i_lt, i_le, i_eq, nt, i_m1, Int32.toInt_zero] at *); omega))]; done) | (rw [if_neg (by ((try simp (disch := omega) only [i_lt, i_le, i_eq, nt, i_m1, Int32.toInt_zero] at *); omega)), if_neg (by ((try simp (disch := omega) only [i_lt, i_le, i_eq, nt, i_m1, Int32.toInt_zero] at *); omega)), if_pos (by ((try simp (disch := omega) only [i_lt, i_le, i_eq, nt, i_m1, Int32.toInt_zero] at *); omega))]; done) | (rw [if_neg (by ((try simp (disch := omega) only [i_lt, i_le, i_eq, nt, i_m1, Int32.toInt_zero] at *); omega)), if_neg (by ((try simp (disch := omega) only [i_lt, i_le, i_eq, nt, i_m1, Int32.toInt_zero] at *); omega)), if_neg (by ((try simp (disch := omega) only [i_lt, i_le, i_eq, nt, i_m1, Int32.toInt_zero] at *); omega))]; done)
    · refine xr_iload_n (n := 48) dX8_sets_47 rfl rfl ?_
      refine xr_goto (n := 83) dX8_sets_48 (by decide) ?_
      refine xr_istore (n := 85) dX8_sets_83 rfl rfl ?_
      dsimp only [xst, Nat.beq, List.filter, Bool.not_true, Bool.not_false]
      refine xr_aload_n (n := 86) dX8_sets_85 rfl rfl ?_
      refine xr_get (n := 89) dX8_sets_86 fl_X8_28 (by first | exact mput_0 _ _ _ | exact mput_r (by decide)) (by rfl) rfl ?_
      refine xr_bipush (v := nI 6) (n := 91) dX8_sets_89 (by decide) rfl ?_
      refine xr_iload_n (n := 92) dX8_sets_91 rfl rfl ?_
      refine xr_imul (n := 93) dX8_sets_92 rfl ?_
      try simp (disch := omega) only [nI_clamp, pk_mul, nI_add, oi1, up2_a, ur_a, Nat.reduceEqDiff, Nat.reduceMul, Nat.reduceAdd, reduceIte, if_pos, if_neg, g0, g1, g2, g3, g4, g5, g6]
      refine xr_aload_n (n := 94) dX8_sets_93 rfl rfl ?_
      refine xr_iload_n (n := 95) dX8_sets_94 rfl rfl ?_
      refine xr_iconst (v := nI 1) (n := 96) dX8_sets_95 (by decide) rfl ?_
      refine xr_callV (y2 := mX8_of) (As := [_, _]) (n := 99) dX8_sets_96 lm_X8_124 pm_X8_of pi_X8_of (by first | exact mput_0 _ _ _ | exact mput_r (by decide)) rfl rfl rfl (by simp [Value.category]) rfl ⟨Nat.le_refl _, Nat.le_refl _⟩ ?_
      refine s_X8_of (by omega) (by omega) ?_
      dsimp only [xK, xps]
      try simp (disch := omega) only [nI_clamp, pk_mul, nI_add, oi1, up2_a, ur_a, Nat.reduceEqDiff, Nat.reduceMul, Nat.reduceAdd, reduceIte, if_pos, if_neg, g0, g1, g2, g3, g4, g5, g6]
      refine xr_iadd (n := 100) dX8_sets_99 rfl ?_
      try simp (disch := omega) only [nI_clamp, pk_mul, nI_add, oi1, up2_a, ur_a, Nat.reduceEqDiff, Nat.reduceMul, Nat.reduceAdd, reduceIte, if_pos, if_neg, g0, g1, g2, g3, g4, g5, g6]
      refine xr_iload (n := 102) dX8_sets_100 rfl rfl ?_
      refine xr_callS (y2 := mX8_held) (As := [_]) (n := 105) dX8_sets_102 lm_X8_149 pm_X8_held kp_static_yX8_held rfl rfl (by simp [Value.category]) rfl ⟨Nat.le_refl _, Nat.le_refl _⟩ ?_
      refine s_X8_held ?_
      dsimp only [xK, xps]
      refine xq_iastore (n := 106) dX8_sets_105 (by first | exact mput_0 _ _ _ | exact mput_r (by decide)) (by first | exact vp_in_nI (by omega) (by omega)) rfl ?_
      simp (disch := omega) only [nI_clamp, List.set, mw_0, mw_1, mw_2, mw_3, mw_4, mw_5, mw_6, mw_7, mw_8, mw_9, mw_10, mw_11, mw_12, mw_13, mw_14, mw_15, mw_16, mw_17, mw_18, mw_19]
      refine xr_return dX8_sets_106 rfl rfl ?_
      refine qm hq ?_
      unfold msets mval
      first | (exfalso; first | exact h44 h22 | exact h22 h44) | (rw [if_pos (by ((try simp (disch := omega) only [i_lt, i_le, i_eq, nt, i_m1, Int32.toInt_zero] at *); omega))]; done) | (rw [if_neg (by ((try simp (disch := omega) only [i_lt, i_le, i_eq, nt, i_m1, Int32.toInt_zero] at *); omega)), if_pos (by ((try simp (disch := omega) only [i_lt, i_le, i_eq, nt, i_m1, Int32.toInt_zero] at *); omega))]; done) | (rw [if_neg (by ((try simp (disch := omega) only [i_lt, i_le, i_eq, nt, i_m1, Int32.toInt_zero] at *); omega)), if_neg (by ((try simp (disch := omega) only [i_lt, i_le, i_eq, nt, i_m1, Int32.toInt_zero] at *); omega)), if_pos (by ((try simp (disch := omega) only [i_lt, i_le, i_eq, nt, i_m1, Int32.toInt_zero] at *); omega))]; done) | (rw [if_neg (by ((try simp (disch := omega) only [i_lt, i_le, i_eq, nt, i_m1, Int32.toInt_zero] at *); omega)), if_neg (by ((try simp (disch := omega) only [i_lt, i_le, i_eq, nt, i_m1, Int32.toInt_zero] at *); omega)), if_neg (by ((try simp (disch := omega) only [i_lt, i_le, i_eq, nt, i_m1, Int32.toInt_zero] at *); omega))]; done)

theorem s_X8_marks {G : xG} {d : Nat} {f : Nat → xC} {r : Nat × Nat} {Q : Option Value → xM → Prop} {m : Nat} {μ : xS} {sd n st : Nat} (hsd : sd ≤ 1) (hn : μ 13 (6 * sd + 3) = nI n) (hn2 : n ≤ 400) (hst : μ 13 (6 * sd) = nI (st + 1)) (hst2 : st ≤ 400) (hq : Q none (mput f m (mmarks μ sd n st), r)) : xMet G d mX8_marks [.ref m, .int (nI sd)] (mput f m μ, r) r Q := by
  refine xMet_0 (by decide +kernel) rfl (Nat.le_of_ble_eq_true rfl) ?_
  show xX G d mX8_marks r r (xΦ G r r Q) 0 [(0, .ref m), (1, .int (nI sd))] [] (mput f m μ, r)
  refine xr_aload_n (n := 1) dX8_marks_0 rfl rfl ?_
  refine xr_get (n := 4) dX8_marks_1 fl_X8_40 (by first | exact mput_0 _ _ _ | exact mput_r (by decide)) (by rfl) rfl ?_
  refine xr_bipush (v := nI 6) (n := 6) dX8_marks_4 (by decide) rfl ?_
  refine xr_iload_n (n := 7) dX8_marks_6 rfl rfl ?_
  refine xr_imul (n := 8) dX8_marks_7 rfl ?_
  try simp (disch := omega) only [nI_clamp, pk_mul, nI_add, oi1, up2_a, ur_a, Nat.reduceEqDiff, Nat.reduceMul, Nat.reduceAdd, reduceIte, if_pos, if_neg, hn, hst, mmark1, pk_sub, Nat.add_sub_cancel]
  refine xr_iconst (v := nI 3) (n := 9) dX8_marks_8 (by decide) rfl ?_
  refine xr_iadd (n := 10) dX8_marks_9 rfl ?_
  try simp (disch := omega) only [nI_clamp, pk_mul, nI_add, oi1, up2_a, ur_a, Nat.reduceEqDiff, Nat.reduceMul, Nat.reduceAdd, reduceIte, if_pos, if_neg, hn, hst, mmark1, pk_sub, Nat.add_sub_cancel]
  refine xr_iaload (n := 11) dX8_marks_10 (by first | exact mput_0 _ _ _ | exact mput_r (by decide)) (by first | exact vp_in_nI (by omega) (by omega)) rfl ?_
  try simp (disch := omega) only [nI_clamp, pk_mul, nI_add, oi1, up2_a, ur_a, Nat.reduceEqDiff, Nat.reduceMul, Nat.reduceAdd, reduceIte, if_pos, if_neg, hn, hst, mmark1, pk_sub, Nat.add_sub_cancel]
  refine xr_istore_n (n := 12) dX8_marks_11 rfl rfl ?_
  dsimp only [xst, Nat.beq, List.filter, Bool.not_true, Bool.not_false]
  refine xr_iload_n (n := 13) dX8_marks_12 rfl rfl ?_
  refine xr_bipush (v := nI 40) (n := 15) dX8_marks_13 (by decide) rfl ?_
  refine xr_icmp_ge (tgt := 82) (n := 18) dX8_marks_15 (by decide) rfl (fun h15 => ?_) (fun h15 => ?_)
  · have hlt : ¬ n < 40 := by ((try simp (disch := omega) only [i_lt, i_le, i_eq, nt, i_m1, Int32.toInt_zero] at *); omega)
    refine xr_aload_n (n := 83) dX8_marks_82 rfl rfl ?_
    refine xr_get (n := 86) dX8_marks_83 fl_X8_40 (by first | exact mput_0 _ _ _ | exact mput_r (by decide)) (by rfl) rfl ?_
    refine xr_bipush (v := nI 6) (n := 88) dX8_marks_86 (by decide) rfl ?_
    refine xr_iload_n (n := 89) dX8_marks_88 rfl rfl ?_
    refine xr_imul (n := 90) dX8_marks_89 rfl ?_
    try simp (disch := omega) only [nI_clamp, pk_mul, nI_add, oi1, up2_a, ur_a, Nat.reduceEqDiff, Nat.reduceMul, Nat.reduceAdd, reduceIte, if_pos, if_neg, hn, hst, mmark1, pk_sub, Nat.add_sub_cancel]
    refine xr_iconst (v := nI 3) (n := 91) dX8_marks_90 (by decide) rfl ?_
    refine xr_iadd (n := 92) dX8_marks_91 rfl ?_
    try simp (disch := omega) only [nI_clamp, pk_mul, nI_add, oi1, up2_a, ur_a, Nat.reduceEqDiff, Nat.reduceMul, Nat.reduceAdd, reduceIte, if_pos, if_neg, hn, hst, mmark1, pk_sub, Nat.add_sub_cancel]
    refine xr_dup2 (n := 93) dX8_marks_92 rfl rfl rfl ?_
    refine xr_iaload (n := 94) dX8_marks_93 (by first | exact mput_0 _ _ _ | exact mput_r (by decide)) (by first | exact vp_in_nI (by omega) (by omega)) rfl ?_
    try simp (disch := omega) only [nI_clamp, pk_mul, nI_add, oi1, up2_a, ur_a, Nat.reduceEqDiff, Nat.reduceMul, Nat.reduceAdd, reduceIte, if_pos, if_neg, hn, hst, mmark1, pk_sub, Nat.add_sub_cancel]
    refine xr_iconst (v := nI 1) (n := 95) dX8_marks_94 (by decide) rfl ?_
    refine xr_iadd (n := 96) dX8_marks_95 rfl ?_
    try simp (disch := omega) only [nI_clamp, pk_mul, nI_add, oi1, up2_a, ur_a, Nat.reduceEqDiff, Nat.reduceMul, Nat.reduceAdd, reduceIte, if_pos, if_neg, hn, hst, mmark1, pk_sub, Nat.add_sub_cancel]
    refine xq_iastore (n := 97) dX8_marks_96 (by first | exact mput_0 _ _ _ | exact mput_r (by decide)) (by first | exact vp_in_nI (by omega) (by omega)) rfl ?_
    simp (disch := omega) only [nI_clamp, List.set, mw_0, mw_1, mw_2, mw_3, mw_4, mw_5, mw_6, mw_7, mw_8, mw_9, mw_10, mw_11, mw_12, mw_13, mw_14, mw_15, mw_16, mw_17, mw_18, mw_19]
    refine xr_return dX8_marks_97 rfl rfl ?_
    unfold mmarks at hq
    rw [if_neg hlt] at hq
    exact hq
  · have hlt : n < 40 := by ((try simp (disch := omega) only [i_lt, i_le, i_eq, nt, i_m1, Int32.toInt_zero] at *); omega)
    refine xr_aload_n (n := 19) dX8_marks_18 rfl rfl ?_
    refine xr_get (n := 22) dX8_marks_19 fl_X8_34 (by first | exact mput_0 _ _ _ | exact mput_r (by decide)) (by rfl) rfl ?_
    refine xr_bipush (v := nI 40) (n := 24) dX8_marks_22 (by decide) rfl ?_
    refine xr_iload_n (n := 25) dX8_marks_24 rfl rfl ?_
    refine xr_imul (n := 26) dX8_marks_25 rfl ?_
    try simp (disch := omega) only [nI_clamp, pk_mul, nI_add, oi1, up2_a, ur_a, Nat.reduceEqDiff, Nat.reduceMul, Nat.reduceAdd, reduceIte, if_pos, if_neg, hn, hst, mmark1, pk_sub, Nat.add_sub_cancel]
    refine xr_iload_n (n := 27) dX8_marks_26 rfl rfl ?_
    refine xr_iadd (n := 28) dX8_marks_27 rfl ?_
    try simp (disch := omega) only [nI_clamp, pk_mul, nI_add, oi1, up2_a, ur_a, Nat.reduceEqDiff, Nat.reduceMul, Nat.reduceAdd, reduceIte, if_pos, if_neg, hn, hst, mmark1, pk_sub, Nat.add_sub_cancel]
    refine xr_aload_n (n := 29) dX8_marks_28 rfl rfl ?_
    refine xr_get (n := 32) dX8_marks_29 fl_X8_40 (by first | exact mput_0 _ _ _ | exact mput_r (by decide)) (by rfl) rfl ?_
    refine xr_bipush (v := nI 6) (n := 34) dX8_marks_32 (by decide) rfl ?_
    refine xr_iload_n (n := 35) dX8_marks_34 rfl rfl ?_
    refine xr_imul (n := 36) dX8_marks_35 rfl ?_
    try simp (disch := omega) only [nI_clamp, pk_mul, nI_add, oi1, up2_a, ur_a, Nat.reduceEqDiff, Nat.reduceMul, Nat.reduceAdd, reduceIte, if_pos, if_neg, hn, hst, mmark1, pk_sub, Nat.add_sub_cancel]
    refine xr_iaload (n := 37) dX8_marks_36 (by first | exact mput_0 _ _ _ | exact mput_r (by decide)) (by first | exact vp_in_nI (by omega) (by omega)) rfl ?_
    try simp (disch := omega) only [nI_clamp, pk_mul, nI_add, oi1, up2_a, ur_a, Nat.reduceEqDiff, Nat.reduceMul, Nat.reduceAdd, reduceIte, if_pos, if_neg, hn, hst, mmark1, pk_sub, Nat.add_sub_cancel]
    refine xr_iconst (v := nI 1) (n := 38) dX8_marks_37 (by decide) rfl ?_
    refine xr_isub (n := 39) dX8_marks_38 rfl ?_
    try simp (disch := omega) only [nI_clamp, pk_mul, nI_add, oi1, up2_a, ur_a, Nat.reduceEqDiff, Nat.reduceMul, Nat.reduceAdd, reduceIte, if_pos, if_neg, hn, hst, mmark1, pk_sub, Nat.add_sub_cancel]
    refine xq_iastore (n := 40) dX8_marks_39 (by first | exact mput_0 _ _ _ | exact mput_r (by decide)) (by first | exact vp_in_nI (by omega) (by omega)) rfl ?_
    simp (disch := omega) only [nI_clamp, List.set, mw_0, mw_1, mw_2, mw_3, mw_4, mw_5, mw_6, mw_7, mw_8, mw_9, mw_10, mw_11, mw_12, mw_13, mw_14, mw_15, mw_16, mw_17, mw_18, mw_19]
    refine xr_iconst (v := nI 0) (n := 41) dX8_marks_40 (by decide) rfl ?_
    refine xr_istore_n (n := 42) dX8_marks_41 rfl rfl ?_
    dsimp only [xst, Nat.beq, List.filter, Bool.not_true, Bool.not_false]
    have e1 : up2 μ 11 (40 * sd + n) (nI st) = mmark1 μ sd n st 0 := by
      unfold mmark1
      exact (ur_fo0 (s := up2 μ 11 (40 * sd + n) (nI st)) (i := 12)).symm
    rw [e1]
    refine nat_down (P := fun k => xX G d mX8_marks r r (xΦ G r r Q) 42 [(0, .ref m), (1, .int (nI sd)), (2, .int (nI n)), (3, .int (nI k))] [] (mput f m (mmark1 μ sd n st k), r)) (N := 6) ?_ ?_ 0 (by omega)
    · refine xr_iload_n (n := 43) dX8_marks_42 rfl rfl ?_
      refine xr_bipush (v := nI 6) (n := 45) dX8_marks_43 (by decide) rfl ?_
      refine xr_icmp_ge (tgt := 82) (n := 48) dX8_marks_45 (by decide) rfl (fun h45 => ?_) (fun h45 => by (exfalso; ((try simp (disch := omega) only [i_lt, i_le, i_eq, nt, i_m1, Int32.toInt_zero] at *); omega)))
      refine xr_aload_n (n := 83) dX8_marks_82 rfl rfl ?_
      refine xr_get (n := 86) dX8_marks_83 fl_X8_40 (by first | exact mput_0 _ _ _ | exact mput_r (by decide)) (by rfl) rfl ?_
      refine xr_bipush (v := nI 6) (n := 88) dX8_marks_86 (by decide) rfl ?_
      refine xr_iload_n (n := 89) dX8_marks_88 rfl rfl ?_
      refine xr_imul (n := 90) dX8_marks_89 rfl ?_
      try simp (disch := omega) only [nI_clamp, pk_mul, nI_add, oi1, up2_a, ur_a, Nat.reduceEqDiff, Nat.reduceMul, Nat.reduceAdd, reduceIte, if_pos, if_neg, hn, hst, mmark1, pk_sub, Nat.add_sub_cancel]
      refine xr_iconst (v := nI 3) (n := 91) dX8_marks_90 (by decide) rfl ?_
      refine xr_iadd (n := 92) dX8_marks_91 rfl ?_
      try simp (disch := omega) only [nI_clamp, pk_mul, nI_add, oi1, up2_a, ur_a, Nat.reduceEqDiff, Nat.reduceMul, Nat.reduceAdd, reduceIte, if_pos, if_neg, hn, hst, mmark1, pk_sub, Nat.add_sub_cancel]
      refine xr_dup2 (n := 93) dX8_marks_92 rfl rfl rfl ?_
      refine xr_iaload (n := 94) dX8_marks_93 (by first | exact mput_0 _ _ _ | exact mput_r (by decide)) (by first | exact vp_in_nI (by omega) (by omega)) rfl ?_
      try simp (disch := omega) only [nI_clamp, pk_mul, nI_add, oi1, up2_a, ur_a, Nat.reduceEqDiff, Nat.reduceMul, Nat.reduceAdd, reduceIte, if_pos, if_neg, hn, hst, mmark1, pk_sub, Nat.add_sub_cancel]
      refine xr_iconst (v := nI 1) (n := 95) dX8_marks_94 (by decide) rfl ?_
      refine xr_iadd (n := 96) dX8_marks_95 rfl ?_
      try simp (disch := omega) only [nI_clamp, pk_mul, nI_add, oi1, up2_a, ur_a, Nat.reduceEqDiff, Nat.reduceMul, Nat.reduceAdd, reduceIte, if_pos, if_neg, hn, hst, mmark1, pk_sub, Nat.add_sub_cancel]
      refine xq_iastore (n := 97) dX8_marks_96 (by first | exact mput_0 _ _ _ | exact mput_r (by decide)) (by first | exact vp_in_nI (by omega) (by omega)) rfl ?_
      simp (disch := omega) only [nI_clamp, List.set, mw_0, mw_1, mw_2, mw_3, mw_4, mw_5, mw_6, mw_7, mw_8, mw_9, mw_10, mw_11, mw_12, mw_13, mw_14, mw_15, mw_16, mw_17, mw_18, mw_19]
      refine xr_return dX8_marks_97 rfl rfl ?_
      unfold mmarks at hq
      rw [if_pos hlt] at hq
      exact hq
    · intro k hk ih
      refine xr_iload_n (n := 43) dX8_marks_42 rfl rfl ?_
      refine xr_bipush (v := nI 6) (n := 45) dX8_marks_43 (by decide) rfl ?_
      refine xr_icmp_ge (tgt := 82) (n := 48) dX8_marks_45 (by decide) rfl (fun h45 => by (exfalso; ((try simp (disch := omega) only [i_lt, i_le, i_eq, nt, i_m1, Int32.toInt_zero] at *); omega))) (fun h45 => ?_)
      refine xr_aload_n (n := 49) dX8_marks_48 rfl rfl ?_
      refine xr_get (n := 52) dX8_marks_49 fl_X8_37 (by first | exact mput_0 _ _ _ | exact mput_r (by decide)) (by rfl) rfl ?_
      refine xr_sipush (v := nI 240) (n := 55) dX8_marks_52 (by decide) rfl ?_
      refine xr_iload_n (n := 56) dX8_marks_55 rfl rfl ?_
      refine xr_imul (n := 57) dX8_marks_56 rfl ?_
      try simp (disch := omega) only [nI_clamp, pk_mul, nI_add, oi1, up2_a, ur_a, Nat.reduceEqDiff, Nat.reduceMul, Nat.reduceAdd, reduceIte, if_pos, if_neg, hn, hst, mmark1, pk_sub, Nat.add_sub_cancel]
      refine xr_bipush (v := nI 6) (n := 59) dX8_marks_57 (by decide) rfl ?_
      refine xr_iload_n (n := 60) dX8_marks_59 rfl rfl ?_
      refine xr_imul (n := 61) dX8_marks_60 rfl ?_
      try simp (disch := omega) only [nI_clamp, pk_mul, nI_add, oi1, up2_a, ur_a, Nat.reduceEqDiff, Nat.reduceMul, Nat.reduceAdd, reduceIte, if_pos, if_neg, hn, hst, mmark1, pk_sub, Nat.add_sub_cancel]
      refine xr_iadd (n := 62) dX8_marks_61 rfl ?_
      try simp (disch := omega) only [nI_clamp, pk_mul, nI_add, oi1, up2_a, ur_a, Nat.reduceEqDiff, Nat.reduceMul, Nat.reduceAdd, reduceIte, if_pos, if_neg, hn, hst, mmark1, pk_sub, Nat.add_sub_cancel]
      refine xr_iload_n (n := 63) dX8_marks_62 rfl rfl ?_
      refine xr_iadd (n := 64) dX8_marks_63 rfl ?_
      try simp (disch := omega) only [nI_clamp, pk_mul, nI_add, oi1, up2_a, ur_a, Nat.reduceEqDiff, Nat.reduceMul, Nat.reduceAdd, reduceIte, if_pos, if_neg, hn, hst, mmark1, pk_sub, Nat.add_sub_cancel]
      refine xr_aload_n (n := 65) dX8_marks_64 rfl rfl ?_
      refine xr_get (n := 68) dX8_marks_65 fl_X8_28 (by first | exact mput_0 _ _ _ | exact mput_r (by decide)) (by rfl) rfl ?_
      refine xr_bipush (v := nI 6) (n := 70) dX8_marks_68 (by decide) rfl ?_
      refine xr_iload_n (n := 71) dX8_marks_70 rfl rfl ?_
      refine xr_imul (n := 72) dX8_marks_71 rfl ?_
      try simp (disch := omega) only [nI_clamp, pk_mul, nI_add, oi1, up2_a, ur_a, Nat.reduceEqDiff, Nat.reduceMul, Nat.reduceAdd, reduceIte, if_pos, if_neg, hn, hst, mmark1, pk_sub, Nat.add_sub_cancel]
      refine xr_iload_n (n := 73) dX8_marks_72 rfl rfl ?_
      refine xr_iadd (n := 74) dX8_marks_73 rfl ?_
      try simp (disch := omega) only [nI_clamp, pk_mul, nI_add, oi1, up2_a, ur_a, Nat.reduceEqDiff, Nat.reduceMul, Nat.reduceAdd, reduceIte, if_pos, if_neg, hn, hst, mmark1, pk_sub, Nat.add_sub_cancel]
      refine xr_iaload (n := 75) dX8_marks_74 (by first | exact mput_0 _ _ _ | exact mput_r (by decide)) (by first | exact vp_in_nI (by omega) (by omega)) rfl ?_
      try simp (disch := omega) only [nI_clamp, pk_mul, nI_add, oi1, up2_a, ur_a, Nat.reduceEqDiff, Nat.reduceMul, Nat.reduceAdd, reduceIte, if_pos, if_neg, hn, hst, mmark1, pk_sub, Nat.add_sub_cancel]
      refine xq_iastore (n := 76) dX8_marks_75 (by first | exact mput_0 _ _ _ | exact mput_r (by decide)) (by first | exact vp_in_nI (by omega) (by omega)) rfl ?_
      simp (disch := omega) only [nI_clamp, List.set, mw_0, mw_1, mw_2, mw_3, mw_4, mw_5, mw_6, mw_7, mw_8, mw_9, mw_10, mw_11, mw_12, mw_13, mw_14, mw_15, mw_16, mw_17, mw_18, mw_19]
      refine xr_iinc (n := 79) dX8_marks_76 rfl rfl (rfl) rfl ?_
      dsimp only [xst, Nat.beq, List.filter, Bool.not_true, Bool.not_false]
      try simp (disch := omega) only [nI_clamp, pk_mul, nI_add, oi1, up2_a, ur_a, Nat.reduceEqDiff, Nat.reduceMul, Nat.reduceAdd, reduceIte, if_pos, if_neg, hn, hst, mmark1, pk_sub, Nat.add_sub_cancel]
      refine xr_goto (n := 42) dX8_marks_79 (by decide) ?_
      refine xX.eq rfl rfl rfl ?_ ih
      unfold mmark1
      rw [← ur_fo (g := fun c => μ 9 (6 * sd + c)) (v := μ 9 (6 * sd + k)) rfl]

theorem s_X8_does {G : xG} {d : Nat} {f : Nat → xC} {r : Nat × Nat} {Q : Option Value → xM → Prop} {m : Nat} {μ : xS} {sd n2 n3 st : Nat} {n s : Nat} {P : Nat → Nat → Nat} (hsd : sd ≤ 1) (hP : isPg (μ 5) n P) (hO : okP n P) (hs : s < n) (hk : P s 0 ≤ 2) (h2 : μ 13 (6 * sd + 2) = nI n2) (hn2 : n2 ≤ 400) (h3 : μ 13 (6 * sd + 3) = nI n3) (hn3 : n3 ≤ 400) (hst : μ 13 (6 * sd) = nI (st + 1)) (hst2 : st ≤ 400) (hq : Q none (mput f m (if P s 0 = 0 then msets μ sd (P s 1) (P s 2) (P s 3) (P s 4) else if P s 0 = 1 then mtells μ sd n2 (P s 1) else mmarks μ sd n3 st), r)) : xMet G (d + 2) mX8_does [.ref m, .int (nI sd), .int (nI s), .int (nI (P s 0))] (mput f m μ, r) r Q := by
  refine xMet_0 (by decide +kernel) rfl (Nat.le_of_ble_eq_true rfl) ?_
  show xX G (d + 2) mX8_does r r (xΦ G r r Q) 0 [(0, .ref m), (1, .int (nI sd)), (2, .int (nI s)), (3, .int (nI (P s 0)))] [] (mput f m μ, r)
  have hn6 := hO.1
  obtain ⟨k0, k1, k2, k3, k4, k6, k5⟩ := hO.2 s hs
  unfold okT at k3 k4
  have g0 := hP.g (w := 0) hs (by omega)
  have g1 := hP.g (w := 1) hs (by omega)
  have g2 := hP.g (w := 2) hs (by omega)
  have g3 := hP.g (w := 3) hs (by omega)
  have g4 := hP.g (w := 4) hs (by omega)
  have g5 := hP.g (w := 5) hs (by omega)
  have g6 := hP.g (w := 6) hs (by omega)
  refine xr_iload_n (n := 1) dX8_does_0 rfl rfl ?_
  refine xr_if_ne (tgt := 13) (n := 4) dX8_does_1 (by decide) rfl (fun h1 => ?_) (fun h1 => ?_)
  · refine xr_iload_n (n := 14) dX8_does_13 rfl rfl ?_
    refine xr_iconst (v := nI 1) (n := 15) dX8_does_14 (by decide) rfl ?_
    refine xr_icmp_ne (tgt := 27) (n := 18) dX8_does_15 (by decide) rfl (fun h15 => ?_) (fun h15 => ?_)
    · refine xr_aload_n (n := 28) dX8_does_27 rfl rfl ?_
      refine xr_iload_n (n := 29) dX8_does_28 rfl rfl ?_
      refine xr_callV (y2 := mX8_marks) (As := [_]) (n := 32) dX8_does_29 lm_X8_165 pm_X8_marks pi_X8_marks (by first | exact mput_0 _ _ _ | exact mput_r (by decide)) rfl rfl rfl (by simp [Value.category]) rfl ⟨Nat.le_refl _, Nat.le_refl _⟩ ?_
      refine s_X8_marks hsd h3 hn3 hst hst2 ?_
      dsimp only [xK, xps]
      refine xr_return dX8_does_32 rfl rfl ?_
      refine qm hq ?_
      first | (rw [if_pos (by ((try simp (disch := omega) only [i_lt, i_le, i_eq, nt, i_m1, Int32.toInt_zero] at *); omega))]; done) | (rw [if_neg (by ((try simp (disch := omega) only [i_lt, i_le, i_eq, nt, i_m1, Int32.toInt_zero] at *); omega)), if_pos (by ((try simp (disch := omega) only [i_lt, i_le, i_eq, nt, i_m1, Int32.toInt_zero] at *); omega))]; rfl) | (rw [if_neg (by ((try simp (disch := omega) only [i_lt, i_le, i_eq, nt, i_m1, Int32.toInt_zero] at *); omega)), if_neg (by ((try simp (disch := omega) only [i_lt, i_le, i_eq, nt, i_m1, Int32.toInt_zero] at *); omega))]; done)
    · refine xr_aload_n (n := 19) dX8_does_18 rfl rfl ?_
      refine xr_iload_n (n := 20) dX8_does_19 rfl rfl ?_
      refine xr_iload_n (n := 21) dX8_does_20 rfl rfl ?_
      refine xr_callV (y2 := mX8_tellsCell) (As := [_, _]) (n := 24) dX8_does_21 lm_X8_162 pm_X8_tellsCell pi_X8_tellsCell (by first | exact mput_0 _ _ _ | exact mput_r (by decide)) rfl rfl rfl (by simp [Value.category]) rfl ⟨Nat.le_refl _, Nat.le_refl _⟩ ?_
      refine s_X8_tellsCell hsd (by omega) h2 hn2 g1 k1 ?_
      dsimp only [xK, xps]
      refine xr_goto (n := 32) dX8_does_24 (by decide) ?_
      refine xr_return dX8_does_32 rfl rfl ?_
      refine qm hq ?_
      first | (rw [if_pos (by ((try simp (disch := omega) only [i_lt, i_le, i_eq, nt, i_m1, Int32.toInt_zero] at *); omega))]; done) | (rw [if_neg (by ((try simp (disch := omega) only [i_lt, i_le, i_eq, nt, i_m1, Int32.toInt_zero] at *); omega)), if_pos (by ((try simp (disch := omega) only [i_lt, i_le, i_eq, nt, i_m1, Int32.toInt_zero] at *); omega))]; rfl) | (rw [if_neg (by ((try simp (disch := omega) only [i_lt, i_le, i_eq, nt, i_m1, Int32.toInt_zero] at *); omega)), if_neg (by ((try simp (disch := omega) only [i_lt, i_le, i_eq, nt, i_m1, Int32.toInt_zero] at *); omega))]; done)
  · refine xr_aload_n (n := 5) dX8_does_4 rfl rfl ?_
    refine xr_iload_n (n := 6) dX8_does_5 rfl rfl ?_
    refine xr_iload_n (n := 7) dX8_does_6 rfl rfl ?_
    refine xr_callV (y2 := mX8_sets) (As := [_, _]) (n := 10) dX8_does_7 lm_X8_159 pm_X8_sets pi_X8_sets (by first | exact mput_0 _ _ _ | exact mput_r (by decide)) rfl rfl rfl (by simp [Value.category]) rfl ⟨Nat.le_refl _, Nat.le_refl _⟩ ?_
    refine s_X8_sets hsd hP hO hs ?_
    dsimp only [xK, xps]
    refine xr_goto (n := 32) dX8_does_10 (by decide) ?_
    refine xr_return dX8_does_32 rfl rfl ?_
    refine qm hq ?_
    first | (rw [if_pos (by ((try simp (disch := omega) only [i_lt, i_le, i_eq, nt, i_m1, Int32.toInt_zero] at *); omega))]; done) | (rw [if_neg (by ((try simp (disch := omega) only [i_lt, i_le, i_eq, nt, i_m1, Int32.toInt_zero] at *); omega)), if_pos (by ((try simp (disch := omega) only [i_lt, i_le, i_eq, nt, i_m1, Int32.toInt_zero] at *); omega))]; rfl) | (rw [if_neg (by ((try simp (disch := omega) only [i_lt, i_le, i_eq, nt, i_m1, Int32.toInt_zero] at *); omega)), if_neg (by ((try simp (disch := omega) only [i_lt, i_le, i_eq, nt, i_m1, Int32.toInt_zero] at *); omega))]; done)
end
