theorem dX4_evenPairs_3 : decode cX4_evenPairs 3 = .ok (.invokevirtual 39, 3) := by decide +kernel
theorem dX4_evenPairs_6 : decode cX4_evenPairs 6 = .ok (.istore_n 2, 1) := by decide +kernel
theorem dX4_evenPairs_7 : decode cX4_evenPairs 7 = .ok (.iconst 0, 1) := by decide +kernel
theorem dX4_evenPairs_8 : decode cX4_evenPairs 8 = .ok (.istore_n 3, 1) := by decide +kernel
theorem dX4_evenPairs_9 : decode cX4_evenPairs 9 = .ok (.iload_n 3, 1) := by decide +kernel
theorem dX4_evenPairs_10 : decode cX4_evenPairs 10 = .ok (.iload_n 2, 1) := by decide +kernel
theorem dX4_evenPairs_11 : decode cX4_evenPairs 11 = .ok (.if_icmp .ge 20, 3) := by decide +kernel
theorem dX4_evenPairs_14 : decode cX4_evenPairs 14 = .ok (.aload_n 0, 1) := by decide +kernel
theorem dX4_evenPairs_15 : decode cX4_evenPairs 15 = .ok (.iload_n 3, 1) := by decide +kernel
theorem dX4_evenPairs_16 : decode cX4_evenPairs 16 = .ok (.invokevirtual 51, 3) := by decide +kernel
theorem dX4_evenPairs_19 : decode cX4_evenPairs 19 = .ok (.ifCond .eq 6, 3) := by decide +kernel
theorem dX4_evenPairs_22 : decode cX4_evenPairs 22 = .ok (.iinc 1 1, 3) := by decide +kernel
theorem dX4_evenPairs_25 : decode cX4_evenPairs 25 = .ok (.iinc 3 1, 3) := by decide +kernel
theorem dX4_evenPairs_28 : decode cX4_evenPairs 28 = .ok (.goto (-19), 3) := by decide +kernel
theorem dX4_evenPairs_31 : decode cX4_evenPairs 31 = .ok (.iload_n 1, 1) := by decide +kernel
theorem dX4_evenPairs_32 : decode cX4_evenPairs 32 = .ok (.ireturn, 1) := by decide +kernel
theorem dX4_isEven_0 : decode cX4_isEven 0 = .ok (.iconst 0, 1) := by decide +kernel
theorem dX4_isEven_1 : decode cX4_isEven 1 = .ok (.istore_n 2, 1) := by decide +kernel
theorem dX4_isEven_2 : decode cX4_isEven 2 = .ok (.iload_n 2, 1) := by decide +kernel
theorem dX4_isEven_3 : decode cX4_isEven 3 = .ok (.bipush 6, 2) := by decide +kernel
theorem dX4_isEven_5 : decode cX4_isEven 5 = .ok (.if_icmp .ge 32, 3) := by decide +kernel
theorem dX4_isEven_8 : decode cX4_isEven 8 = .ok (.aload_n 0, 1) := by decide +kernel
theorem dX4_isEven_9 : decode cX4_isEven 9 = .ok (.getfield 12, 3) := by decide +kernel
theorem dX4_isEven_12 : decode cX4_isEven 12 = .ok (.iload_n 1, 1) := by decide +kernel
theorem dX4_isEven_13 : decode cX4_isEven 13 = .ok (.iload_n 2, 1) := by decide +kernel
theorem dX4_isEven_14 : decode cX4_isEven 14 = .ok (.invokevirtual 55, 3) := by decide +kernel
theorem dX4_isEven_17 : decode cX4_isEven 17 = .ok (.aload_n 0, 1) := by decide +kernel
theorem dX4_isEven_18 : decode cX4_isEven 18 = .ok (.getfield 18, 3) := by decide +kernel
theorem dX4_isEven_21 : decode cX4_isEven 21 = .ok (.iload_n 1, 1) := by decide +kernel
theorem dX4_isEven_22 : decode cX4_isEven 22 = .ok (.iload_n 2, 1) := by decide +kernel
theorem dX4_isEven_23 : decode cX4_isEven 23 = .ok (.invokevirtual 55, 3) := by decide +kernel
theorem dX4_isEven_26 : decode cX4_isEven 26 = .ok (.if_icmp .eq 5, 3) := by decide +kernel
theorem dX4_isEven_29 : decode cX4_isEven 29 = .ok (.iconst 0, 1) := by decide +kernel
theorem dX4_isEven_30 : decode cX4_isEven 30 = .ok (.ireturn, 1) := by decide +kernel
theorem dX4_isEven_31 : decode cX4_isEven 31 = .ok (.iinc 2 1, 3) := by decide +kernel
theorem dX4_isEven_34 : decode cX4_isEven 34 = .ok (.goto (-32), 3) := by decide +kernel
theorem dX4_isEven_37 : decode cX4_isEven 37 = .ok (.iconst 1, 1) := by decide +kernel
theorem dX4_isEven_38 : decode cX4_isEven 38 = .ok (.ireturn, 1) := by decide +kernel
theorem dX4_cellsEqualTo_0 : decode cX4_cellsEqualTo 0 = .ok (.iconst 0, 1) := by decide +kernel
theorem dX4_cellsEqualTo_1 : decode cX4_cellsEqualTo 1 = .ok (.istore_n 2, 1) := by decide +kernel
theorem dX4_cellsEqualTo_2 : decode cX4_cellsEqualTo 2 = .ok (.iconst 0, 1) := by decide +kernel
theorem dX4_cellsEqualTo_3 : decode cX4_cellsEqualTo 3 = .ok (.istore_n 3, 1) := by decide +kernel
theorem dX4_cellsEqualTo_4 : decode cX4_cellsEqualTo 4 = .ok (.iload_n 3, 1) := by decide +kernel
theorem dX4_cellsEqualTo_5 : decode cX4_cellsEqualTo 5 = .ok (.bipush 6, 2) := by decide +kernel
theorem dX4_cellsEqualTo_7 : decode cX4_cellsEqualTo 7 = .ok (.if_icmp .ge 24, 3) := by decide +kernel
theorem dX4_cellsEqualTo_10 : decode cX4_cellsEqualTo 10 = .ok (.aload_n 0, 1) := by decide +kernel
theorem dX4_cellsEqualTo_11 : decode cX4_cellsEqualTo 11 = .ok (.iload_n 1, 1) := by decide +kernel
theorem dX4_cellsEqualTo_12 : decode cX4_cellsEqualTo 12 = .ok (.iload_n 3, 1) := by decide +kernel
theorem dX4_cellsEqualTo_13 : decode cX4_cellsEqualTo 13 = .ok (.invokevirtual 58, 3) := by decide +kernel
theorem dX4_cellsEqualTo_16 : decode cX4_cellsEqualTo 16 = .ok (.ifCond .eq 9, 3) := by decide +kernel
theorem dX4_cellsEqualTo_19 : decode cX4_cellsEqualTo 19 = .ok (.iload_n 2, 1) := by decide +kernel
theorem dX4_cellsEqualTo_20 : decode cX4_cellsEqualTo 20 = .ok (.iconst 1, 1) := by decide +kernel
theorem dX4_cellsEqualTo_21 : decode cX4_cellsEqualTo 21 = .ok (.iload_n 3, 1) := by decide +kernel
theorem dX4_cellsEqualTo_22 : decode cX4_cellsEqualTo 22 = .ok (.ishl, 1) := by decide +kernel
theorem dX4_cellsEqualTo_23 : decode cX4_cellsEqualTo 23 = .ok (.ior, 1) := by decide +kernel
theorem dX4_cellsEqualTo_24 : decode cX4_cellsEqualTo 24 = .ok (.istore_n 2, 1) := by decide +kernel
theorem dX4_cellsEqualTo_25 : decode cX4_cellsEqualTo 25 = .ok (.iinc 3 1, 3) := by decide +kernel
theorem dX4_cellsEqualTo_28 : decode cX4_cellsEqualTo 28 = .ok (.goto (-24), 3) := by decide +kernel
theorem dX4_cellsEqualTo_31 : decode cX4_cellsEqualTo 31 = .ok (.iload_n 2, 1) := by decide +kernel
theorem dX4_cellsEqualTo_32 : decode cX4_cellsEqualTo 32 = .ok (.ireturn, 1) := by decide +kernel
theorem dX4_isAlwaysSame_0 : decode cX4_isAlwaysSame 0 = .ok (.aload_n 0, 1) := by decide +kernel
theorem dX4_isAlwaysSame_1 : decode cX4_isAlwaysSame 1 = .ok (.invokevirtual 39, 3) := by decide +kernel
theorem dX4_isAlwaysSame_4 : decode cX4_isAlwaysSame 4 = .ok (.istore_n 3, 1) := by decide +kernel
theorem dX4_isAlwaysSame_5 : decode cX4_isAlwaysSame 5 = .ok (.iconst 0, 1) := by decide +kernel
theorem dX4_isAlwaysSame_6 : decode cX4_isAlwaysSame 6 = .ok (.istore 4, 2) := by decide +kernel
theorem dX4_isAlwaysSame_8 : decode cX4_isAlwaysSame 8 = .ok (.iload 4, 2) := by decide +kernel
theorem dX4_isAlwaysSame_10 : decode cX4_isAlwaysSame 10 = .ok (.iload_n 3, 1) := by decide +kernel
theorem dX4_isAlwaysSame_11 : decode cX4_isAlwaysSame 11 = .ok (.if_icmp .ge 34, 3) := by decide +kernel
theorem dX4_isAlwaysSame_14 : decode cX4_isAlwaysSame 14 = .ok (.aload_n 0, 1) := by decide +kernel
theorem dX4_isAlwaysSame_15 : decode cX4_isAlwaysSame 15 = .ok (.getfield 12, 3) := by decide +kernel
theorem dX4_isAlwaysSame_18 : decode cX4_isAlwaysSame 18 = .ok (.iload 4, 2) := by decide +kernel
theorem dX4_isAlwaysSame_20 : decode cX4_isAlwaysSame 20 = .ok (.iload_n 1, 1) := by decide +kernel
theorem dX4_isAlwaysSame_21 : decode cX4_isAlwaysSame 21 = .ok (.invokevirtual 55, 3) := by decide +kernel
theorem dX4_isAlwaysSame_24 : decode cX4_isAlwaysSame 24 = .ok (.aload_n 0, 1) := by decide +kernel
theorem dX4_isAlwaysSame_25 : decode cX4_isAlwaysSame 25 = .ok (.getfield 18, 3) := by decide +kernel
theorem dX4_isAlwaysSame_28 : decode cX4_isAlwaysSame 28 = .ok (.iload 4, 2) := by decide +kernel
theorem dX4_isAlwaysSame_30 : decode cX4_isAlwaysSame 30 = .ok (.iload_n 2, 1) := by decide +kernel
theorem dX4_isAlwaysSame_31 : decode cX4_isAlwaysSame 31 = .ok (.invokevirtual 55, 3) := by decide +kernel
theorem dX4_isAlwaysSame_34 : decode cX4_isAlwaysSame 34 = .ok (.if_icmp .eq 5, 3) := by decide +kernel
theorem dX4_isAlwaysSame_37 : decode cX4_isAlwaysSame 37 = .ok (.iconst 0, 1) := by decide +kernel
theorem dX4_isAlwaysSame_38 : decode cX4_isAlwaysSame 38 = .ok (.ireturn, 1) := by decide +kernel
theorem dX4_isAlwaysSame_39 : decode cX4_isAlwaysSame 39 = .ok (.iinc 4 1, 3) := by decide +kernel
theorem dX4_isAlwaysSame_42 : decode cX4_isAlwaysSame 42 = .ok (.goto (-34), 3) := by decide +kernel
theorem dX4_isAlwaysSame_45 : decode cX4_isAlwaysSame 45 = .ok (.iconst 1, 1) := by decide +kernel
theorem dX4_isAlwaysSame_46 : decode cX4_isAlwaysSame 46 = .ok (.ireturn, 1) := by decide +kernel
theorem dX4_inAgreement_0 : decode cX4_inAgreement 0 = .ok (.aload_n 0, 1) := by decide +kernel
theorem dX4_inAgreement_1 : decode cX4_inAgreement 1 = .ok (.getfield 12, 3) := by decide +kernel
theorem dX4_inAgreement_4 : decode cX4_inAgreement 4 = .ok (.getfield 62, 3) := by decide +kernel
theorem dX4_inAgreement_7 : decode cX4_inAgreement 7 = .ok (.getfield 66, 3) := by decide +kernel
theorem dX4_inAgreement_10 : decode cX4_inAgreement 10 = .ok (.ifCond .ne 40, 3) := by decide +kernel
theorem dX4_inAgreement_13 : decode cX4_inAgreement 13 = .ok (.aload_n 0, 1) := by decide +kernel
theorem dX4_inAgreement_14 : decode cX4_inAgreement 14 = .ok (.getfield 18, 3) := by decide +kernel
theorem dX4_inAgreement_17 : decode cX4_inAgreement 17 = .ok (.getfield 62, 3) := by decide +kernel
theorem dX4_inAgreement_20 : decode cX4_inAgreement 20 = .ok (.getfield 66, 3) := by decide +kernel
theorem dX4_inAgreement_23 : decode cX4_inAgreement 23 = .ok (.ifCond .ne 27, 3) := by decide +kernel
theorem dX4_inAgreement_26 : decode cX4_inAgreement 26 = .ok (.aload_n 0, 1) := by decide +kernel
theorem dX4_inAgreement_27 : decode cX4_inAgreement 27 = .ok (.getfield 12, 3) := by decide +kernel
theorem dX4_inAgreement_30 : decode cX4_inAgreement 30 = .ok (.getfield 62, 3) := by decide +kernel
theorem dX4_inAgreement_33 : decode cX4_inAgreement 33 = .ok (.aload_n 0, 1) := by decide +kernel
theorem dX4_inAgreement_34 : decode cX4_inAgreement 34 = .ok (.getfield 18, 3) := by decide +kernel
theorem dX4_inAgreement_37 : decode cX4_inAgreement 37 = .ok (.getfield 62, 3) := by decide +kernel
theorem dX4_inAgreement_40 : decode cX4_inAgreement 40 = .ok (.invokevirtual 72, 3) := by decide +kernel
theorem dX4_inAgreement_43 : decode cX4_inAgreement 43 = .ok (.ifCond .eq 7, 3) := by decide +kernel
theorem dX4_inAgreement_46 : decode cX4_inAgreement 46 = .ok (.iconst 1, 1) := by decide +kernel
theorem dX4_inAgreement_47 : decode cX4_inAgreement 47 = .ok (.goto 4, 3) := by decide +kernel
theorem dX4_inAgreement_50 : decode cX4_inAgreement 50 = .ok (.iconst 0, 1) := by decide +kernel
theorem dX4_inAgreement_51 : decode cX4_inAgreement 51 = .ok (.ireturn, 1) := by decide +kernel
theorem dX5_init_0 : decode cX5_init 0 = .ok (.aload_n 0, 1) := by decide +kernel
theorem dX5_init_1 : decode cX5_init 1 = .ok (.invokespecial 3, 3) := by decide +kernel
theorem dX5_init_4 : decode cX5_init 4 = .ok (.aload_n 0, 1) := by decide +kernel
theorem dX5_init_5 : decode cX5_init 5 = .ok (.bipush 120, 2) := by decide +kernel
theorem dX5_init_7 : decode cX5_init 7 = .ok (.newarray .char, 2) := by decide +kernel
theorem dX5_init_9 : decode cX5_init 9 = .ok (.putfield 9, 3) := by decide +kernel
theorem dX5_init_12 : decode cX5_init 12 = .ok (.return_, 1) := by decide +kernel
theorem dX5_isFull_0 : decode cX5_isFull 0 = .ok (.aload_n 0, 1) := by decide +kernel
theorem dX5_isFull_1 : decode cX5_isFull 1 = .ok (.getfield 15, 3) := by decide +kernel
theorem dX5_isFull_4 : decode cX5_isFull 4 = .ok (.bipush 120, 2) := by decide +kernel
theorem dX5_isFull_6 : decode cX5_isFull 6 = .ok (.if_icmp .lt 7, 3) := by decide +kernel
theorem dX5_isFull_9 : decode cX5_isFull 9 = .ok (.iconst 1, 1) := by decide +kernel
theorem dX5_isFull_10 : decode cX5_isFull 10 = .ok (.goto 4, 3) := by decide +kernel
theorem dX5_isFull_13 : decode cX5_isFull 13 = .ok (.iconst 0, 1) := by decide +kernel
theorem dX5_isFull_14 : decode cX5_isFull 14 = .ok (.ireturn, 1) := by decide +kernel
theorem dX5_add_0 : decode cX5_add 0 = .ok (.aload_n 0, 1) := by decide +kernel
theorem dX5_add_1 : decode cX5_add 1 = .ok (.getfield 15, 3) := by decide +kernel
theorem dX5_add_4 : decode cX5_add 4 = .ok (.iconst 0, 1) := by decide +kernel
theorem dX5_add_5 : decode cX5_add 5 = .ok (.bipush 119, 2) := by decide +kernel
theorem dX5_add_7 : decode cX5_add 7 = .ok (.invokestatic 19, 3) := by decide +kernel
theorem dX5_add_10 : decode cX5_add 10 = .ok (.ifCond .eq 23, 3) := by decide +kernel
theorem dX5_add_13 : decode cX5_add 13 = .ok (.aload_n 0, 1) := by decide +kernel
theorem dX5_add_14 : decode cX5_add 14 = .ok (.getfield 9, 3) := by decide +kernel
theorem dX5_add_17 : decode cX5_add 17 = .ok (.aload_n 0, 1) := by decide +kernel
theorem dX5_add_18 : decode cX5_add 18 = .ok (.getfield 15, 3) := by decide +kernel
theorem dX5_add_21 : decode cX5_add 21 = .ok (.iload_n 1, 1) := by decide +kernel
theorem dX5_add_22 : decode cX5_add 22 = .ok (.castore, 1) := by decide +kernel
theorem dX5_add_23 : decode cX5_add 23 = .ok (.aload_n 0, 1) := by decide +kernel
theorem dX5_add_24 : decode cX5_add 24 = .ok (.dup, 1) := by decide +kernel
theorem dX5_add_25 : decode cX5_add 25 = .ok (.getfield 15, 3) := by decide +kernel
theorem dX5_add_28 : decode cX5_add 28 = .ok (.iconst 1, 1) := by decide +kernel
theorem dX5_add_29 : decode cX5_add 29 = .ok (.iadd, 1) := by decide +kernel
theorem dX5_add_30 : decode cX5_add 30 = .ok (.putfield 15, 3) := by decide +kernel
theorem dX5_add_33 : decode cX5_add 33 = .ok (.return_, 1) := by decide +kernel
theorem dX5_signAt_0 : decode cX5_signAt 0 = .ok (.iload_n 1, 1) := by decide +kernel
theorem dX5_signAt_1 : decode cX5_signAt 1 = .ok (.iconst 0, 1) := by decide +kernel
theorem dX5_signAt_2 : decode cX5_signAt 2 = .ok (.aload_n 0, 1) := by decide +kernel
theorem dX5_signAt_3 : decode cX5_signAt 3 = .ok (.getfield 15, 3) := by decide +kernel
theorem dX5_signAt_6 : decode cX5_signAt 6 = .ok (.bipush 120, 2) := by decide +kernel
theorem dX5_signAt_8 : decode cX5_signAt 8 = .ok (.invokestatic 23, 3) := by decide +kernel
theorem dX5_signAt_11 : decode cX5_signAt 11 = .ok (.iconst 1, 1) := by decide +kernel
theorem dX5_signAt_12 : decode cX5_signAt 12 = .ok (.isub, 1) := by decide +kernel
theorem dX5_signAt_13 : decode cX5_signAt 13 = .ok (.invokestatic 19, 3) := by decide +kernel
theorem dX5_signAt_16 : decode cX5_signAt 16 = .ok (.ifCond .eq 12, 3) := by decide +kernel
theorem dX5_signAt_19 : decode cX5_signAt 19 = .ok (.aload_n 0, 1) := by decide +kernel
theorem dX5_signAt_20 : decode cX5_signAt 20 = .ok (.getfield 9, 3) := by decide +kernel
theorem dX5_signAt_23 : decode cX5_signAt 23 = .ok (.iload_n 1, 1) := by decide +kernel
theorem dX5_signAt_24 : decode cX5_signAt 24 = .ok (.caload, 1) := by decide +kernel
theorem dX5_signAt_25 : decode cX5_signAt 25 = .ok (.goto 4, 3) := by decide +kernel
theorem dX5_signAt_28 : decode cX5_signAt 28 = .ok (.iconst 0, 1) := by decide +kernel
theorem dX5_signAt_29 : decode cX5_signAt 29 = .ok (.ireturn, 1) := by decide +kernel
theorem dX6_init_0 : decode cX6_init 0 = .ok (.aload_n 0, 1) := by decide +kernel
theorem dX6_init_1 : decode cX6_init 1 = .ok (.invokespecial 3, 3) := by decide +kernel
theorem dX6_init_4 : decode cX6_init 4 = .ok (.aload_n 0, 1) := by decide +kernel
theorem dX6_init_5 : decode cX6_init 5 = .ok (.new 9, 3) := by decide +kernel
theorem dX6_init_8 : decode cX6_init 8 = .ok (.dup, 1) := by decide +kernel
theorem dX6_init_9 : decode cX6_init 9 = .ok (.invokespecial 11, 3) := by decide +kernel
theorem dX6_init_12 : decode cX6_init 12 = .ok (.putfield 12, 3) := by decide +kernel
theorem dX6_init_15 : decode cX6_init 15 = .ok (.aload_n 0, 1) := by decide +kernel
theorem dX6_init_16 : decode cX6_init 16 = .ok (.bipush 6, 2) := by decide +kernel
theorem dX6_init_18 : decode cX6_init 18 = .ok (.newarray .int, 2) := by decide +kernel
theorem dX6_init_20 : decode cX6_init 20 = .ok (.putfield 18, 3) := by decide +kernel
theorem dX6_init_23 : decode cX6_init 23 = .ok (.aload_n 0, 1) := by decide +kernel
theorem dX6_init_24 : decode cX6_init 24 = .ok (.sipush 240, 3) := by decide +kernel
theorem dX6_init_27 : decode cX6_init 27 = .ok (.newarray .int, 2) := by decide +kernel
theorem dX6_init_29 : decode cX6_init 29 = .ok (.putfield 22, 3) := by decide +kernel
theorem dX6_init_32 : decode cX6_init 32 = .ok (.aload_n 0, 1) := by decide +kernel
theorem dX6_init_33 : decode cX6_init 33 = .ok (.bipush 40, 2) := by decide +kernel
theorem dX6_init_35 : decode cX6_init 35 = .ok (.newarray .int, 2) := by decide +kernel
theorem dX6_init_37 : decode cX6_init 37 = .ok (.putfield 25, 3) := by decide +kernel
theorem dX6_init_40 : decode cX6_init 40 = .ok (.aload_n 0, 1) := by decide +kernel
theorem dX6_init_41 : decode cX6_init 41 = .ok (.bipush 60, 2) := by decide +kernel
theorem dX6_init_43 : decode cX6_init 43 = .ok (.newarray .int, 2) := by decide +kernel
theorem dX6_init_45 : decode cX6_init 45 = .ok (.putfield 28, 3) := by decide +kernel
theorem dX6_init_48 : decode cX6_init 48 = .ok (.return_, 1) := by decide +kernel
theorem dX6_follow_0 : decode cX6_follow 0 = .ok (.aload_n 0, 1) := by decide +kernel
theorem dX6_follow_1 : decode cX6_follow 1 = .ok (.iload_n 2, 1) := by decide +kernel
theorem dX6_follow_2 : decode cX6_follow 2 = .ok (.iload_n 3, 1) := by decide +kernel
theorem dX6_follow_3 : decode cX6_follow 3 = .ok (.invokevirtual 31, 3) := by decide +kernel
theorem dX6_follow_6 : decode cX6_follow 6 = .ok (.iconst 0, 1) := by decide +kernel
theorem dX6_follow_7 : decode cX6_follow 7 = .ok (.istore 4, 2) := by decide +kernel
theorem dX6_follow_9 : decode cX6_follow 9 = .ok (.iconst 0, 1) := by decide +kernel
theorem dX6_follow_10 : decode cX6_follow 10 = .ok (.istore 5, 2) := by decide +kernel
theorem dX6_follow_12 : decode cX6_follow 12 = .ok (.iload 5, 2) := by decide +kernel
theorem dX6_follow_14 : decode cX6_follow 14 = .ok (.sipush 400, 3) := by decide +kernel
theorem dX6_follow_17 : decode cX6_follow 17 = .ok (.if_icmp .ge 37, 3) := by decide +kernel
theorem dX6_follow_20 : decode cX6_follow 20 = .ok (.aload_n 1, 1) := by decide +kernel
theorem dX6_follow_21 : decode cX6_follow 21 = .ok (.iload 4, 2) := by decide +kernel
theorem dX6_follow_23 : decode cX6_follow 23 = .ok (.invokevirtual 35, 3) := by decide +kernel
theorem dX6_follow_26 : decode cX6_follow 26 = .ok (.ifCond .eq 28, 3) := by decide +kernel
theorem dX6_follow_29 : decode cX6_follow 29 = .ok (.aload_n 0, 1) := by decide +kernel
theorem dX6_follow_30 : decode cX6_follow 30 = .ok (.aload_n 1, 1) := by decide +kernel
theorem dX6_follow_31 : decode cX6_follow 31 = .ok (.iload 4, 2) := by decide +kernel
theorem dX6_follow_33 : decode cX6_follow 33 = .ok (.invokevirtual 41, 3) := by decide +kernel
theorem dX6_follow_36 : decode cX6_follow 36 = .ok (.istore 4, 2) := by decide +kernel
theorem dX6_follow_38 : decode cX6_follow 38 = .ok (.aload_n 0, 1) := by decide +kernel
theorem dX6_follow_39 : decode cX6_follow 39 = .ok (.dup, 1) := by decide +kernel
theorem dX6_follow_40 : decode cX6_follow 40 = .ok (.getfield 45, 3) := by decide +kernel
theorem dX6_follow_43 : decode cX6_follow 43 = .ok (.iconst 1, 1) := by decide +kernel
theorem dX6_follow_44 : decode cX6_follow 44 = .ok (.iadd, 1) := by decide +kernel
theorem dX6_follow_45 : decode cX6_follow 45 = .ok (.putfield 45, 3) := by decide +kernel
theorem dX6_follow_48 : decode cX6_follow 48 = .ok (.iinc 5 1, 3) := by decide +kernel
theorem dX6_follow_51 : decode cX6_follow 51 = .ok (.goto (-39), 3) := by decide +kernel
theorem dX6_follow_54 : decode cX6_follow 54 = .ok (.aload_n 0, 1) := by decide +kernel
theorem dX6_follow_55 : decode cX6_follow 55 = .ok (.getfield 12, 3) := by decide +kernel
theorem dX6_follow_58 : decode cX6_follow 58 = .ok (.aload_n 1, 1) := by decide +kernel
theorem dX6_follow_59 : decode cX6_follow 59 = .ok (.iload 4, 2) := by decide +kernel
theorem dX6_follow_61 : decode cX6_follow 61 = .ok (.invokevirtual 35, 3) := by decide +kernel
theorem dX6_follow_64 : decode cX6_follow 64 = .ok (.putfield 49, 3) := by decide +kernel
theorem dX6_follow_67 : decode cX6_follow 67 = .ok (.return_, 1) := by decide +kernel
theorem dX6_begin_0 : decode cX6_begin 0 = .ok (.iconst 0, 1) := by decide +kernel
theorem dX6_begin_1 : decode cX6_begin 1 = .ok (.istore_n 3, 1) := by decide +kernel
theorem dX6_begin_2 : decode cX6_begin 2 = .ok (.iload_n 3, 1) := by decide +kernel
theorem dX6_begin_3 : decode cX6_begin 3 = .ok (.bipush 6, 2) := by decide +kernel
theorem dX6_begin_5 : decode cX6_begin 5 = .ok (.if_icmp .ge 16, 3) := by decide +kernel
theorem dX6_begin_8 : decode cX6_begin 8 = .ok (.aload_n 0, 1) := by decide +kernel
theorem dX6_begin_9 : decode cX6_begin 9 = .ok (.getfield 18, 3) := by decide +kernel
theorem dX6_begin_12 : decode cX6_begin 12 = .ok (.iload_n 3, 1) := by decide +kernel
theorem dX6_begin_13 : decode cX6_begin 13 = .ok (.iconst 0, 1) := by decide +kernel
theorem dX6_begin_14 : decode cX6_begin 14 = .ok (.iastore, 1) := by decide +kernel
theorem dX6_begin_15 : decode cX6_begin 15 = .ok (.iinc 3 1, 3) := by decide +kernel
theorem dX6_begin_18 : decode cX6_begin 18 = .ok (.goto (-16), 3) := by decide +kernel
theorem dX6_begin_21 : decode cX6_begin 21 = .ok (.aload_n 0, 1) := by decide +kernel
theorem dX6_begin_22 : decode cX6_begin 22 = .ok (.getfield 18, 3) := by decide +kernel
theorem dX6_begin_25 : decode cX6_begin 25 = .ok (.iconst 0, 1) := by decide +kernel
theorem dX6_begin_26 : decode cX6_begin 26 = .ok (.iload_n 1, 1) := by decide +kernel
theorem dX6_begin_27 : decode cX6_begin 27 = .ok (.iastore, 1) := by decide +kernel
theorem dX6_begin_28 : decode cX6_begin 28 = .ok (.aload_n 0, 1) := by decide +kernel
theorem dX6_begin_29 : decode cX6_begin 29 = .ok (.getfield 18, 3) := by decide +kernel
theorem dX6_begin_32 : decode cX6_begin 32 = .ok (.iconst 1, 1) := by decide +kernel
theorem dX6_begin_33 : decode cX6_begin 33 = .ok (.iload_n 2, 1) := by decide +kernel
theorem dX6_begin_34 : decode cX6_begin 34 = .ok (.iastore, 1) := by decide +kernel
theorem dX6_begin_35 : decode cX6_begin 35 = .ok (.iconst 0, 1) := by decide +kernel
theorem dX6_begin_36 : decode cX6_begin 36 = .ok (.istore_n 3, 1) := by decide +kernel
theorem dX6_begin_37 : decode cX6_begin 37 = .ok (.iload_n 3, 1) := by decide +kernel
theorem dX6_begin_38 : decode cX6_begin 38 = .ok (.bipush 60, 2) := by decide +kernel
theorem dX6_begin_40 : decode cX6_begin 40 = .ok (.if_icmp .ge 16, 3) := by decide +kernel
theorem dX6_begin_43 : decode cX6_begin 43 = .ok (.aload_n 0, 1) := by decide +kernel
theorem dX6_begin_44 : decode cX6_begin 44 = .ok (.getfield 28, 3) := by decide +kernel
theorem dX6_begin_47 : decode cX6_begin 47 = .ok (.iload_n 3, 1) := by decide +kernel
theorem dX6_begin_48 : decode cX6_begin 48 = .ok (.iconst 0, 1) := by decide +kernel
theorem dX6_begin_49 : decode cX6_begin 49 = .ok (.iastore, 1) := by decide +kernel
theorem dX6_begin_50 : decode cX6_begin 50 = .ok (.iinc 3 1, 3) := by decide +kernel
theorem dX6_begin_53 : decode cX6_begin 53 = .ok (.goto (-16), 3) := by decide +kernel
theorem dX6_begin_56 : decode cX6_begin 56 = .ok (.aload_n 0, 1) := by decide +kernel
theorem dX6_begin_57 : decode cX6_begin 57 = .ok (.getfield 12, 3) := by decide +kernel
theorem dX6_begin_60 : decode cX6_begin 60 = .ok (.invokevirtual 53, 3) := by decide +kernel
theorem dX6_begin_63 : decode cX6_begin 63 = .ok (.aload_n 0, 1) := by decide +kernel
theorem dX6_begin_64 : decode cX6_begin 64 = .ok (.iconst 0, 1) := by decide +kernel
theorem dX6_begin_65 : decode cX6_begin 65 = .ok (.putfield 45, 3) := by decide +kernel
theorem dX6_begin_68 : decode cX6_begin 68 = .ok (.aload_n 0, 1) := by decide +kernel
theorem dX6_begin_69 : decode cX6_begin 69 = .ok (.iconst 0, 1) := by decide +kernel
theorem dX6_begin_70 : decode cX6_begin 70 = .ok (.putfield 55, 3) := by decide +kernel
theorem dX6_begin_73 : decode cX6_begin 73 = .ok (.aload_n 0, 1) := by decide +kernel
theorem dX6_begin_74 : decode cX6_begin 74 = .ok (.iconst 0, 1) := by decide +kernel
theorem dX6_begin_75 : decode cX6_begin 75 = .ok (.putfield 58, 3) := by decide +kernel
theorem dX6_begin_78 : decode cX6_begin 78 = .ok (.aload_n 0, 1) := by decide +kernel
theorem dX6_begin_79 : decode cX6_begin 79 = .ok (.iconst 0, 1) := by decide +kernel
theorem dX6_begin_80 : decode cX6_begin 80 = .ok (.putfield 61, 3) := by decide +kernel
theorem dX6_begin_83 : decode cX6_begin 83 = .ok (.return_, 1) := by decide +kernel
theorem dX6_stepFrom_0 : decode cX6_stepFrom 0 = .ok (.aload_n 1, 1) := by decide +kernel
theorem dX6_stepFrom_1 : decode cX6_stepFrom 1 = .ok (.iload_n 2, 1) := by decide +kernel
theorem dX6_stepFrom_2 : decode cX6_stepFrom 2 = .ok (.invokevirtual 64, 3) := by decide +kernel
theorem dX6_stepFrom_5 : decode cX6_stepFrom 5 = .ok (.istore_n 3, 1) := by decide +kernel
theorem dX6_stepFrom_6 : decode cX6_stepFrom 6 = .ok (.aload_n 0, 1) := by decide +kernel
theorem dX6_stepFrom_7 : decode cX6_stepFrom 7 = .ok (.iload_n 3, 1) := by decide +kernel
theorem dX6_stepFrom_8 : decode cX6_stepFrom 8 = .ok (.invokevirtual 68, 3) := by decide +kernel
theorem dX6_stepFrom_11 : decode cX6_stepFrom 11 = .ok (.ifCond .le 7, 3) := by decide +kernel
theorem dX6_stepFrom_14 : decode cX6_stepFrom 14 = .ok (.iconst 1, 1) := by decide +kernel
theorem dX6_stepFrom_15 : decode cX6_stepFrom 15 = .ok (.goto 4, 3) := by decide +kernel
theorem dX6_stepFrom_18 : decode cX6_stepFrom 18 = .ok (.iconst 0, 1) := by decide +kernel
theorem dX6_stepFrom_19 : decode cX6_stepFrom 19 = .ok (.istore 4, 2) := by decide +kernel
theorem dX6_stepFrom_21 : decode cX6_stepFrom 21 = .ok (.aload_n 1, 1) := by decide +kernel
theorem dX6_stepFrom_22 : decode cX6_stepFrom 22 = .ok (.iload_n 2, 1) := by decide +kernel
theorem dX6_stepFrom_23 : decode cX6_stepFrom 23 = .ok (.invokevirtual 71, 3) := by decide +kernel
theorem dX6_stepFrom_26 : decode cX6_stepFrom 26 = .ok (.tableswitch 85 1 4 #[30, 47, 65, 75], 30) := by decide +kernel
theorem dX6_stepFrom_56 : decode cX6_stepFrom 56 = .ok (.aload_n 0, 1) := by decide +kernel
theorem dX6_stepFrom_57 : decode cX6_stepFrom 57 = .ok (.iload_n 3, 1) := by decide +kernel
theorem dX6_stepFrom_58 : decode cX6_stepFrom 58 = .ok (.aload_n 0, 1) := by decide +kernel
theorem dX6_stepFrom_59 : decode cX6_stepFrom 59 = .ok (.aload_n 1, 1) := by decide +kernel
theorem dX6_stepFrom_60 : decode cX6_stepFrom 60 = .ok (.iload_n 2, 1) := by decide +kernel
theorem dX6_stepFrom_61 : decode cX6_stepFrom 61 = .ok (.invokevirtual 74, 3) := by decide +kernel
theorem dX6_stepFrom_64 : decode cX6_stepFrom 64 = .ok (.invokevirtual 77, 3) := by decide +kernel
theorem dX6_stepFrom_67 : decode cX6_stepFrom 67 = .ok (.aload_n 1, 1) := by decide +kernel
theorem dX6_stepFrom_68 : decode cX6_stepFrom 68 = .ok (.iload_n 2, 1) := by decide +kernel
theorem dX6_stepFrom_69 : decode cX6_stepFrom 69 = .ok (.invokevirtual 80, 3) := by decide +kernel
theorem dX6_stepFrom_72 : decode cX6_stepFrom 72 = .ok (.ireturn, 1) := by decide +kernel
theorem dX6_stepFrom_73 : decode cX6_stepFrom 73 = .ok (.aload_n 0, 1) := by decide +kernel
theorem dX6_stepFrom_74 : decode cX6_stepFrom 74 = .ok (.getfield 12, 3) := by decide +kernel
theorem dX6_stepFrom_77 : decode cX6_stepFrom 77 = .ok (.aload_n 0, 1) := by decide +kernel
theorem dX6_stepFrom_78 : decode cX6_stepFrom 78 = .ok (.iload_n 3, 1) := by decide +kernel
theorem dX6_stepFrom_79 : decode cX6_stepFrom 79 = .ok (.invokevirtual 68, 3) := by decide +kernel
theorem dX6_stepFrom_82 : decode cX6_stepFrom 82 = .ok (.invokevirtual 83, 3) := by decide +kernel
theorem dX6_stepFrom_85 : decode cX6_stepFrom 85 = .ok (.aload_n 1, 1) := by decide +kernel
theorem dX6_stepFrom_86 : decode cX6_stepFrom 86 = .ok (.iload_n 2, 1) := by decide +kernel
theorem dX6_stepFrom_87 : decode cX6_stepFrom 87 = .ok (.invokevirtual 80, 3) := by decide +kernel
theorem dX6_stepFrom_90 : decode cX6_stepFrom 90 = .ok (.ireturn, 1) := by decide +kernel
theorem dX6_stepFrom_91 : decode cX6_stepFrom 91 = .ok (.aload_n 0, 1) := by decide +kernel
theorem dX6_stepFrom_92 : decode cX6_stepFrom 92 = .ok (.invokevirtual 87, 3) := by decide +kernel
theorem dX6_stepFrom_95 : decode cX6_stepFrom 95 = .ok (.aload_n 1, 1) := by decide +kernel
theorem dX6_stepFrom_96 : decode cX6_stepFrom 96 = .ok (.iload_n 2, 1) := by decide +kernel
theorem dX6_stepFrom_97 : decode cX6_stepFrom 97 = .ok (.invokevirtual 80, 3) := by decide +kernel
theorem dX6_stepFrom_100 : decode cX6_stepFrom 100 = .ok (.ireturn, 1) := by decide +kernel
theorem dX6_stepFrom_101 : decode cX6_stepFrom 101 = .ok (.aload_n 0, 1) := by decide +kernel
theorem dX6_stepFrom_102 : decode cX6_stepFrom 102 = .ok (.iload_n 2, 1) := by decide +kernel
theorem dX6_stepFrom_103 : decode cX6_stepFrom 103 = .ok (.iload 4, 2) := by decide +kernel
theorem dX6_stepFrom_105 : decode cX6_stepFrom 105 = .ok (.invokevirtual 90, 3) := by decide +kernel
theorem dX6_stepFrom_108 : decode cX6_stepFrom 108 = .ok (.goto 3, 3) := by decide +kernel
theorem dX6_stepFrom_111 : decode cX6_stepFrom 111 = .ok (.iload 4, 2) := by decide +kernel
theorem dX6_stepFrom_113 : decode cX6_stepFrom 113 = .ok (.ifCond .eq 11, 3) := by decide +kernel
theorem dX6_stepFrom_116 : decode cX6_stepFrom 116 = .ok (.aload_n 1, 1) := by decide +kernel
theorem dX6_stepFrom_117 : decode cX6_stepFrom 117 = .ok (.iload_n 2, 1) := by decide +kernel
theorem dX6_stepFrom_118 : decode cX6_stepFrom 118 = .ok (.invokevirtual 94, 3) := by decide +kernel
theorem dX6_stepFrom_121 : decode cX6_stepFrom 121 = .ok (.goto 8, 3) := by decide +kernel
theorem dX6_stepFrom_124 : decode cX6_stepFrom 124 = .ok (.aload_n 1, 1) := by decide +kernel
theorem dX6_stepFrom_125 : decode cX6_stepFrom 125 = .ok (.iload_n 2, 1) := by decide +kernel
theorem dX6_stepFrom_126 : decode cX6_stepFrom 126 = .ok (.invokevirtual 97, 3) := by decide +kernel
theorem dX6_stepFrom_129 : decode cX6_stepFrom 129 = .ok (.ireturn, 1) := by decide +kernel
theorem dX6_countLook_0 : decode cX6_countLook 0 = .ok (.iload_n 1, 1) := by decide +kernel
theorem dX6_countLook_1 : decode cX6_countLook 1 = .ok (.iconst 0, 1) := by decide +kernel
theorem dX6_countLook_2 : decode cX6_countLook 2 = .ok (.bipush 59, 2) := by decide +kernel
theorem dX6_countLook_4 : decode cX6_countLook 4 = .ok (.invokestatic 100, 3) := by decide +kernel
theorem dX6_countLook_7 : decode cX6_countLook 7 = .ok (.ifCond .eq 42, 3) := by decide +kernel
theorem dX6_countLook_10 : decode cX6_countLook 10 = .ok (.aload_n 0, 1) := by decide +kernel
theorem dX6_countLook_11 : decode cX6_countLook 11 = .ok (.getfield 28, 3) := by decide +kernel
theorem dX6_countLook_14 : decode cX6_countLook 14 = .ok (.iload_n 1, 1) := by decide +kernel
theorem dX6_countLook_15 : decode cX6_countLook 15 = .ok (.iload_n 2, 1) := by decide +kernel
theorem dX6_countLook_16 : decode cX6_countLook 16 = .ok (.ifCond .eq 14, 3) := by decide +kernel
theorem dX6_countLook_19 : decode cX6_countLook 19 = .ok (.aload_n 0, 1) := by decide +kernel
theorem dX6_countLook_20 : decode cX6_countLook 20 = .ok (.getfield 28, 3) := by decide +kernel
theorem dX6_countLook_23 : decode cX6_countLook 23 = .ok (.iload_n 1, 1) := by decide +kernel
theorem dX6_countLook_24 : decode cX6_countLook 24 = .ok (.iaload, 1) := by decide +kernel
theorem dX6_countLook_25 : decode cX6_countLook 25 = .ok (.iconst 1, 1) := by decide +kernel
theorem dX6_countLook_26 : decode cX6_countLook 26 = .ok (.iadd, 1) := by decide +kernel
theorem dX6_countLook_27 : decode cX6_countLook 27 = .ok (.goto 4, 3) := by decide +kernel
theorem dX6_countLook_30 : decode cX6_countLook 30 = .ok (.iconst 0, 1) := by decide +kernel
theorem dX6_countLook_31 : decode cX6_countLook 31 = .ok (.iastore, 1) := by decide +kernel
theorem dX6_countLook_32 : decode cX6_countLook 32 = .ok (.aload_n 0, 1) := by decide +kernel
theorem dX6_countLook_33 : decode cX6_countLook 33 = .ok (.aload_n 0, 1) := by decide +kernel
theorem dX6_countLook_34 : decode cX6_countLook 34 = .ok (.getfield 61, 3) := by decide +kernel
theorem dX6_countLook_37 : decode cX6_countLook 37 = .ok (.aload_n 0, 1) := by decide +kernel
theorem dX6_countLook_38 : decode cX6_countLook 38 = .ok (.getfield 28, 3) := by decide +kernel
theorem dX6_countLook_41 : decode cX6_countLook 41 = .ok (.iload_n 1, 1) := by decide +kernel
theorem dX6_countLook_42 : decode cX6_countLook 42 = .ok (.iaload, 1) := by decide +kernel
theorem dX6_countLook_43 : decode cX6_countLook 43 = .ok (.invokestatic 104, 3) := by decide +kernel
theorem dX6_countLook_46 : decode cX6_countLook 46 = .ok (.putfield 61, 3) := by decide +kernel
theorem dX6_countLook_49 : decode cX6_countLook 49 = .ok (.iload_n 2, 1) := by decide +kernel
theorem dX6_countLook_50 : decode cX6_countLook 50 = .ok (.ifCond .eq 13, 3) := by decide +kernel
theorem dX6_countLook_53 : decode cX6_countLook 53 = .ok (.aload_n 0, 1) := by decide +kernel
theorem dX6_countLook_54 : decode cX6_countLook 54 = .ok (.dup, 1) := by decide +kernel
theorem dX6_countLook_55 : decode cX6_countLook 55 = .ok (.getfield 58, 3) := by decide +kernel
theorem dX6_countLook_58 : decode cX6_countLook 58 = .ok (.iconst 1, 1) := by decide +kernel
theorem dX6_countLook_59 : decode cX6_countLook 59 = .ok (.iadd, 1) := by decide +kernel
theorem dX6_countLook_60 : decode cX6_countLook 60 = .ok (.putfield 58, 3) := by decide +kernel
theorem dX6_countLook_63 : decode cX6_countLook 63 = .ok (.return_, 1) := by decide +kernel
theorem dX6_resultOf_0 : decode cX6_resultOf 0 = .ok (.aload_n 0, 1) := by decide +kernel
theorem dX6_resultOf_1 : decode cX6_resultOf 1 = .ok (.aload_n 1, 1) := by decide +kernel
theorem dX6_resultOf_2 : decode cX6_resultOf 2 = .ok (.iload_n 2, 1) := by decide +kernel
theorem dX6_resultOf_3 : decode cX6_resultOf 3 = .ok (.invokevirtual 110, 3) := by decide +kernel
theorem dX6_resultOf_6 : decode cX6_resultOf 6 = .ok (.invokevirtual 113, 3) := by decide +kernel
theorem dX6_resultOf_9 : decode cX6_resultOf 9 = .ok (.istore_n 3, 1) := by decide +kernel
theorem dX6_resultOf_10 : decode cX6_resultOf 10 = .ok (.aload_n 0, 1) := by decide +kernel
theorem dX6_resultOf_11 : decode cX6_resultOf 11 = .ok (.aload_n 1, 1) := by decide +kernel
theorem dX6_resultOf_12 : decode cX6_resultOf 12 = .ok (.iload_n 2, 1) := by decide +kernel
theorem dX6_resultOf_13 : decode cX6_resultOf 13 = .ok (.invokevirtual 116, 3) := by decide +kernel
theorem dX6_resultOf_16 : decode cX6_resultOf 16 = .ok (.invokevirtual 113, 3) := by decide +kernel
theorem dX6_resultOf_19 : decode cX6_resultOf 19 = .ok (.istore 4, 2) := by decide +kernel
theorem dX6_resultOf_21 : decode cX6_resultOf 21 = .ok (.aload_n 1, 1) := by decide +kernel
theorem dX6_resultOf_22 : decode cX6_resultOf 22 = .ok (.iload_n 2, 1) := by decide +kernel
theorem dX6_resultOf_23 : decode cX6_resultOf 23 = .ok (.invokevirtual 119, 3) := by decide +kernel
theorem dX6_resultOf_26 : decode cX6_resultOf 26 = .ok (.tableswitch 54 42 45 #[46, 30, 54, 38], 30) := by decide +kernel
theorem dX6_resultOf_56 : decode cX6_resultOf 56 = .ok (.iload_n 3, 1) := by decide +kernel
theorem dX6_resultOf_57 : decode cX6_resultOf 57 = .ok (.iload 4, 2) := by decide +kernel
theorem dX6_resultOf_59 : decode cX6_resultOf 59 = .ok (.iadd, 1) := by decide +kernel
theorem dX6_resultOf_60 : decode cX6_resultOf 60 = .ok (.invokestatic 122, 3) := by decide +kernel
theorem dX6_resultOf_63 : decode cX6_resultOf 63 = .ok (.ireturn, 1) := by decide +kernel
theorem dX6_resultOf_64 : decode cX6_resultOf 64 = .ok (.iload_n 3, 1) := by decide +kernel
theorem dX6_resultOf_65 : decode cX6_resultOf 65 = .ok (.iload 4, 2) := by decide +kernel
theorem dX6_resultOf_67 : decode cX6_resultOf 67 = .ok (.isub, 1) := by decide +kernel
theorem dX6_resultOf_68 : decode cX6_resultOf 68 = .ok (.invokestatic 122, 3) := by decide +kernel
theorem dX6_resultOf_71 : decode cX6_resultOf 71 = .ok (.ireturn, 1) := by decide +kernel
theorem dX6_resultOf_72 : decode cX6_resultOf 72 = .ok (.iload_n 3, 1) := by decide +kernel
theorem dX6_resultOf_73 : decode cX6_resultOf 73 = .ok (.iload 4, 2) := by decide +kernel
theorem dX6_resultOf_75 : decode cX6_resultOf 75 = .ok (.imul, 1) := by decide +kernel
theorem dX6_resultOf_76 : decode cX6_resultOf 76 = .ok (.invokestatic 122, 3) := by decide +kernel
theorem dX6_resultOf_79 : decode cX6_resultOf 79 = .ok (.ireturn, 1) := by decide +kernel
theorem dX6_resultOf_80 : decode cX6_resultOf 80 = .ok (.iload_n 3, 1) := by decide +kernel
theorem dX6_resultOf_81 : decode cX6_resultOf 81 = .ok (.ireturn, 1) := by decide +kernel
theorem dX6_termValue_0 : decode cX6_termValue 0 = .ok (.iload_n 1, 1) := by decide +kernel
theorem dX6_termValue_1 : decode cX6_termValue 1 = .ok (.sipush 1000, 3) := by decide +kernel
theorem dX6_termValue_4 : decode cX6_termValue 4 = .ok (.if_icmp .ge 7, 3) := by decide +kernel
theorem dX6_termValue_7 : decode cX6_termValue 7 = .ok (.iload_n 1, 1) := by decide +kernel
theorem dX6_termValue_8 : decode cX6_termValue 8 = .ok (.goto 12, 3) := by decide +kernel
theorem dX6_termValue_11 : decode cX6_termValue 11 = .ok (.aload_n 0, 1) := by decide +kernel
theorem dX6_termValue_12 : decode cX6_termValue 12 = .ok (.iload_n 1, 1) := by decide +kernel
theorem dX6_termValue_13 : decode cX6_termValue 13 = .ok (.sipush 1000, 3) := by decide +kernel
theorem dX6_termValue_16 : decode cX6_termValue 16 = .ok (.isub, 1) := by decide +kernel
theorem dX6_termValue_17 : decode cX6_termValue 17 = .ok (.invokevirtual 68, 3) := by decide +kernel
theorem dX6_termValue_20 : decode cX6_termValue 20 = .ok (.ireturn, 1) := by decide +kernel
theorem dX6_nearestValue_0 : decode cX6_nearestValue 0 = .ok (.sipush (-999), 3) := by decide +kernel
theorem dX6_nearestValue_3 : decode cX6_nearestValue 3 = .ok (.sipush 999, 3) := by decide +kernel
theorem dX6_nearestValue_6 : decode cX6_nearestValue 6 = .ok (.iload_n 0, 1) := by decide +kernel
theorem dX6_nearestValue_7 : decode cX6_nearestValue 7 = .ok (.invokestatic 125, 3) := by decide +kernel
theorem dX6_nearestValue_10 : decode cX6_nearestValue 10 = .ok (.invokestatic 104, 3) := by decide +kernel
theorem dX6_nearestValue_13 : decode cX6_nearestValue 13 = .ok (.ireturn, 1) := by decide +kernel
theorem dX6_setCell_0 : decode cX6_setCell 0 = .ok (.iload_n 1, 1) := by decide +kernel
theorem dX6_setCell_1 : decode cX6_setCell 1 = .ok (.invokestatic 128, 3) := by decide +kernel
theorem dX6_setCell_4 : decode cX6_setCell 4 = .ok (.ifCond .eq 10, 3) := by decide +kernel
theorem dX6_setCell_7 : decode cX6_setCell 7 = .ok (.aload_n 0, 1) := by decide +kernel
theorem dX6_setCell_8 : decode cX6_setCell 8 = .ok (.getfield 18, 3) := by decide +kernel
theorem dX6_setCell_11 : decode cX6_setCell 11 = .ok (.iload_n 1, 1) := by decide +kernel
theorem dX6_setCell_12 : decode cX6_setCell 12 = .ok (.iload_n 2, 1) := by decide +kernel
theorem dX6_setCell_13 : decode cX6_setCell 13 = .ok (.iastore, 1) := by decide +kernel
theorem dX6_setCell_14 : decode cX6_setCell 14 = .ok (.return_, 1) := by decide +kernel
theorem dX6_keepMark_0 : decode cX6_keepMark 0 = .ok (.aload_n 0, 1) := by decide +kernel
theorem dX6_keepMark_1 : decode cX6_keepMark 1 = .ok (.getfield 55, 3) := by decide +kernel
theorem dX6_keepMark_4 : decode cX6_keepMark 4 = .ok (.iconst 0, 1) := by decide +kernel
theorem dX6_keepMark_5 : decode cX6_keepMark 5 = .ok (.bipush 39, 2) := by decide +kernel
theorem dX6_keepMark_7 : decode cX6_keepMark 7 = .ok (.invokestatic 100, 3) := by decide +kernel
theorem dX6_keepMark_10 : decode cX6_keepMark 10 = .ok (.ifCond .eq 37, 3) := by decide +kernel
theorem dX6_keepMark_13 : decode cX6_keepMark 13 = .ok (.aload_n 0, 1) := by decide +kernel
theorem dX6_keepMark_14 : decode cX6_keepMark 14 = .ok (.getfield 25, 3) := by decide +kernel
theorem dX6_keepMark_17 : decode cX6_keepMark 17 = .ok (.aload_n 0, 1) := by decide +kernel
theorem dX6_keepMark_18 : decode cX6_keepMark 18 = .ok (.getfield 55, 3) := by decide +kernel
theorem dX6_keepMark_21 : decode cX6_keepMark 21 = .ok (.aload_n 0, 1) := by decide +kernel
theorem dX6_keepMark_22 : decode cX6_keepMark 22 = .ok (.getfield 45, 3) := by decide +kernel
theorem dX6_keepMark_25 : decode cX6_keepMark 25 = .ok (.iastore, 1) := by decide +kernel
theorem dX6_keepMark_26 : decode cX6_keepMark 26 = .ok (.aload_n 0, 1) := by decide +kernel
theorem dX6_keepMark_27 : decode cX6_keepMark 27 = .ok (.getfield 18, 3) := by decide +kernel
theorem dX6_keepMark_30 : decode cX6_keepMark 30 = .ok (.iconst 0, 1) := by decide +kernel
theorem dX6_keepMark_31 : decode cX6_keepMark 31 = .ok (.aload_n 0, 1) := by decide +kernel
theorem dX6_keepMark_32 : decode cX6_keepMark 32 = .ok (.getfield 22, 3) := by decide +kernel
theorem dX6_keepMark_35 : decode cX6_keepMark 35 = .ok (.aload_n 0, 1) := by decide +kernel
theorem dX6_keepMark_36 : decode cX6_keepMark 36 = .ok (.getfield 55, 3) := by decide +kernel
theorem dX6_keepMark_39 : decode cX6_keepMark 39 = .ok (.bipush 6, 2) := by decide +kernel
theorem dX6_keepMark_41 : decode cX6_keepMark 41 = .ok (.imul, 1) := by decide +kernel
theorem dX6_keepMark_42 : decode cX6_keepMark 42 = .ok (.bipush 6, 2) := by decide +kernel
theorem dX6_keepMark_44 : decode cX6_keepMark 44 = .ok (.invokestatic 131, 3) := by decide +kernel
theorem dX6_keepMark_47 : decode cX6_keepMark 47 = .ok (.aload_n 0, 1) := by decide +kernel
theorem dX6_keepMark_48 : decode cX6_keepMark 48 = .ok (.dup, 1) := by decide +kernel
theorem dX6_keepMark_49 : decode cX6_keepMark 49 = .ok (.getfield 55, 3) := by decide +kernel
theorem dX6_keepMark_52 : decode cX6_keepMark 52 = .ok (.iconst 1, 1) := by decide +kernel
theorem dX6_keepMark_53 : decode cX6_keepMark 53 = .ok (.iadd, 1) := by decide +kernel
theorem dX6_keepMark_54 : decode cX6_keepMark 54 = .ok (.putfield 55, 3) := by decide +kernel
theorem dX6_keepMark_57 : decode cX6_keepMark 57 = .ok (.return_, 1) := by decide +kernel
theorem dX6_marksKept_0 : decode cX6_marksKept 0 = .ok (.aload_n 0, 1) := by decide +kernel
theorem dX6_marksKept_1 : decode cX6_marksKept 1 = .ok (.getfield 55, 3) := by decide +kernel
theorem dX6_marksKept_4 : decode cX6_marksKept 4 = .ok (.bipush 40, 2) := by decide +kernel
theorem dX6_marksKept_6 : decode cX6_marksKept 6 = .ok (.invokestatic 125, 3) := by decide +kernel
theorem dX6_marksKept_9 : decode cX6_marksKept 9 = .ok (.ireturn, 1) := by decide +kernel
theorem dX6_valueOf_0 : decode cX6_valueOf 0 = .ok (.iload_n 1, 1) := by decide +kernel
theorem dX6_valueOf_1 : decode cX6_valueOf 1 = .ok (.iconst 0, 1) := by decide +kernel
theorem dX6_valueOf_2 : decode cX6_valueOf 2 = .ok (.iconst 5, 1) := by decide +kernel
theorem dX6_valueOf_3 : decode cX6_valueOf 3 = .ok (.invokestatic 100, 3) := by decide +kernel
theorem dX6_valueOf_6 : decode cX6_valueOf 6 = .ok (.ifCond .eq 12, 3) := by decide +kernel
theorem dX6_valueOf_9 : decode cX6_valueOf 9 = .ok (.aload_n 0, 1) := by decide +kernel
theorem dX6_valueOf_10 : decode cX6_valueOf 10 = .ok (.getfield 18, 3) := by decide +kernel
theorem dX6_valueOf_13 : decode cX6_valueOf 13 = .ok (.iload_n 1, 1) := by decide +kernel
theorem dX6_valueOf_14 : decode cX6_valueOf 14 = .ok (.iaload, 1) := by decide +kernel
theorem dX6_valueOf_15 : decode cX6_valueOf 15 = .ok (.goto 4, 3) := by decide +kernel
theorem dX6_valueOf_18 : decode cX6_valueOf 18 = .ok (.iconst 0, 1) := by decide +kernel
theorem dX6_valueOf_19 : decode cX6_valueOf 19 = .ok (.ireturn, 1) := by decide +kernel
theorem dX6_cellAtMark_0 : decode cX6_cellAtMark 0 = .ok (.iload_n 1, 1) := by decide +kernel
theorem dX6_cellAtMark_1 : decode cX6_cellAtMark 1 = .ok (.iconst 0, 1) := by decide +kernel
theorem dX6_cellAtMark_2 : decode cX6_cellAtMark 2 = .ok (.aload_n 0, 1) := by decide +kernel
theorem dX6_cellAtMark_3 : decode cX6_cellAtMark 3 = .ok (.invokevirtual 137, 3) := by decide +kernel
theorem dX6_cellAtMark_6 : decode cX6_cellAtMark 6 = .ok (.iconst 1, 1) := by decide +kernel
theorem dX6_cellAtMark_7 : decode cX6_cellAtMark 7 = .ok (.isub, 1) := by decide +kernel
theorem dX6_cellAtMark_8 : decode cX6_cellAtMark 8 = .ok (.invokestatic 100, 3) := by decide +kernel
theorem dX6_cellAtMark_11 : decode cX6_cellAtMark 11 = .ok (.ifCond .eq 14, 3) := by decide +kernel
theorem dX6_cellAtMark_14 : decode cX6_cellAtMark 14 = .ok (.iload_n 2, 1) := by decide +kernel
theorem dX6_cellAtMark_15 : decode cX6_cellAtMark 15 = .ok (.invokestatic 128, 3) := by decide +kernel
theorem dX6_cellAtMark_18 : decode cX6_cellAtMark 18 = .ok (.ifCond .eq 7, 3) := by decide +kernel
theorem dX6_cellAtMark_21 : decode cX6_cellAtMark 21 = .ok (.iconst 1, 1) := by decide +kernel
theorem dX6_cellAtMark_22 : decode cX6_cellAtMark 22 = .ok (.goto 4, 3) := by decide +kernel
theorem dX6_cellAtMark_25 : decode cX6_cellAtMark 25 = .ok (.iconst 0, 1) := by decide +kernel
theorem dX6_cellAtMark_26 : decode cX6_cellAtMark 26 = .ok (.istore_n 3, 1) := by decide +kernel
theorem dX6_cellAtMark_27 : decode cX6_cellAtMark 27 = .ok (.iload_n 3, 1) := by decide +kernel
theorem dX6_cellAtMark_28 : decode cX6_cellAtMark 28 = .ok (.ifCond .eq 17, 3) := by decide +kernel
theorem dX6_cellAtMark_31 : decode cX6_cellAtMark 31 = .ok (.aload_n 0, 1) := by decide +kernel
theorem dX6_cellAtMark_32 : decode cX6_cellAtMark 32 = .ok (.getfield 22, 3) := by decide +kernel
theorem dX6_cellAtMark_35 : decode cX6_cellAtMark 35 = .ok (.iload_n 1, 1) := by decide +kernel
theorem dX6_cellAtMark_36 : decode cX6_cellAtMark 36 = .ok (.bipush 6, 2) := by decide +kernel
theorem dX6_cellAtMark_38 : decode cX6_cellAtMark 38 = .ok (.imul, 1) := by decide +kernel
theorem dX6_cellAtMark_39 : decode cX6_cellAtMark 39 = .ok (.iload_n 2, 1) := by decide +kernel
theorem dX6_cellAtMark_40 : decode cX6_cellAtMark 40 = .ok (.iadd, 1) := by decide +kernel
theorem dX6_cellAtMark_41 : decode cX6_cellAtMark 41 = .ok (.iaload, 1) := by decide +kernel
theorem dX6_cellAtMark_42 : decode cX6_cellAtMark 42 = .ok (.goto 6, 3) := by decide +kernel
theorem dX6_cellAtMark_45 : decode cX6_cellAtMark 45 = .ok (.sipush (-10009), 3) := by decide +kernel
theorem dX6_cellAtMark_48 : decode cX6_cellAtMark 48 = .ok (.ireturn, 1) := by decide +kernel
theorem dX6_stepsAheadOf_0 : decode cX6_stepsAheadOf 0 = .ok (.iload_n 1, 1) := by decide +kernel
theorem dX6_stepsAheadOf_1 : decode cX6_stepsAheadOf 1 = .ok (.iconst 0, 1) := by decide +kernel
theorem dX6_stepsAheadOf_2 : decode cX6_stepsAheadOf 2 = .ok (.aload_n 0, 1) := by decide +kernel
theorem dX6_stepsAheadOf_3 : decode cX6_stepsAheadOf 3 = .ok (.invokevirtual 137, 3) := by decide +kernel
theorem dX6_stepsAheadOf_6 : decode cX6_stepsAheadOf 6 = .ok (.iconst 1, 1) := by decide +kernel
theorem dX6_stepsAheadOf_7 : decode cX6_stepsAheadOf 7 = .ok (.isub, 1) := by decide +kernel
theorem dX6_stepsAheadOf_8 : decode cX6_stepsAheadOf 8 = .ok (.invokestatic 100, 3) := by decide +kernel
theorem dX6_stepsAheadOf_11 : decode cX6_stepsAheadOf 11 = .ok (.ifCond .eq 12, 3) := by decide +kernel
theorem dX6_stepsAheadOf_14 : decode cX6_stepsAheadOf 14 = .ok (.aload_n 0, 1) := by decide +kernel
theorem dX6_stepsAheadOf_15 : decode cX6_stepsAheadOf 15 = .ok (.getfield 25, 3) := by decide +kernel
theorem dX6_stepsAheadOf_18 : decode cX6_stepsAheadOf 18 = .ok (.iload_n 1, 1) := by decide +kernel
theorem dX6_stepsAheadOf_19 : decode cX6_stepsAheadOf 19 = .ok (.iaload, 1) := by decide +kernel
theorem dX6_stepsAheadOf_20 : decode cX6_stepsAheadOf 20 = .ok (.goto 4, 3) := by decide +kernel
theorem dX6_stepsAheadOf_23 : decode cX6_stepsAheadOf 23 = .ok (.iconst 0, 1) := by decide +kernel
theorem dX6_stepsAheadOf_24 : decode cX6_stepsAheadOf 24 = .ok (.ireturn, 1) := by decide +kernel
theorem dX7_init_0 : decode cX7_init 0 = .ok (.aload_n 0, 1) := by decide +kernel
theorem dX7_init_1 : decode cX7_init 1 = .ok (.invokespecial 3, 3) := by decide +kernel
theorem dX7_init_4 : decode cX7_init 4 = .ok (.aload_n 0, 1) := by decide +kernel
theorem dX7_init_5 : decode cX7_init 5 = .ok (.new 9, 3) := by decide +kernel
theorem dX7_init_8 : decode cX7_init 8 = .ok (.dup, 1) := by decide +kernel
theorem dX7_init_9 : decode cX7_init 9 = .ok (.invokespecial 11, 3) := by decide +kernel
theorem dX7_init_12 : decode cX7_init 12 = .ok (.putfield 12, 3) := by decide +kernel
theorem dX7_init_15 : decode cX7_init 15 = .ok (.aload_n 0, 1) := by decide +kernel
theorem dX7_init_16 : decode cX7_init 16 = .ok (.new 16, 3) := by decide +kernel
theorem dX7_init_19 : decode cX7_init 19 = .ok (.dup, 1) := by decide +kernel
theorem dX7_init_20 : decode cX7_init 20 = .ok (.invokespecial 18, 3) := by decide +kernel
theorem dX7_init_23 : decode cX7_init 23 = .ok (.putfield 19, 3) := by decide +kernel
theorem dX7_init_26 : decode cX7_init 26 = .ok (.aload_n 0, 1) := by decide +kernel
theorem dX7_init_27 : decode cX7_init 27 = .ok (.new 23, 3) := by decide +kernel
theorem dX7_init_30 : decode cX7_init 30 = .ok (.dup, 1) := by decide +kernel
theorem dX7_init_31 : decode cX7_init 31 = .ok (.aload_n 0, 1) := by decide +kernel
theorem dX7_init_32 : decode cX7_init 32 = .ok (.getfield 12, 3) := by decide +kernel
theorem dX7_init_35 : decode cX7_init 35 = .ok (.aload_n 0, 1) := by decide +kernel
theorem dX7_init_36 : decode cX7_init 36 = .ok (.getfield 19, 3) := by decide +kernel
theorem dX7_init_39 : decode cX7_init 39 = .ok (.invokespecial 25, 3) := by decide +kernel
theorem dX7_init_42 : decode cX7_init 42 = .ok (.putfield 28, 3) := by decide +kernel
theorem dX7_init_45 : decode cX7_init 45 = .ok (.aload_n 0, 1) := by decide +kernel
theorem dX7_init_46 : decode cX7_init 46 = .ok (.new 32, 3) := by decide +kernel
theorem dX7_init_49 : decode cX7_init 49 = .ok (.dup, 1) := by decide +kernel
theorem dX7_init_50 : decode cX7_init 50 = .ok (.invokespecial 34, 3) := by decide +kernel
theorem dX7_init_53 : decode cX7_init 53 = .ok (.putfield 35, 3) := by decide +kernel
theorem dX7_init_56 : decode cX7_init 56 = .ok (.aload_n 0, 1) := by decide +kernel
theorem dX7_init_57 : decode cX7_init 57 = .ok (.new 39, 3) := by decide +kernel
theorem dX7_init_60 : decode cX7_init 60 = .ok (.dup, 1) := by decide +kernel
theorem dX7_init_61 : decode cX7_init 61 = .ok (.invokespecial 41, 3) := by decide +kernel
theorem dX7_init_64 : decode cX7_init 64 = .ok (.putfield 42, 3) := by decide +kernel
theorem dX7_init_67 : decode cX7_init 67 = .ok (.aload_n 0, 1) := by decide +kernel
theorem dX7_init_68 : decode cX7_init 68 = .ok (.bipush 16, 2) := by decide +kernel
theorem dX7_init_70 : decode cX7_init 70 = .ok (.anewarray 46, 3) := by decide +kernel
theorem dX7_init_73 : decode cX7_init 73 = .ok (.putfield 48, 3) := by decide +kernel
theorem dX7_init_76 : decode cX7_init 76 = .ok (.iconst 0, 1) := by decide +kernel
theorem dX7_init_77 : decode cX7_init 77 = .ok (.istore_n 1, 1) := by decide +kernel
theorem dX7_init_78 : decode cX7_init 78 = .ok (.iload_n 1, 1) := by decide +kernel
theorem dX7_init_79 : decode cX7_init 79 = .ok (.bipush 16, 2) := by decide +kernel
theorem dX7_init_81 : decode cX7_init 81 = .ok (.if_icmp .ge 22, 3) := by decide +kernel
theorem dX7_init_84 : decode cX7_init 84 = .ok (.aload_n 0, 1) := by decide +kernel
theorem dX7_init_85 : decode cX7_init 85 = .ok (.getfield 48, 3) := by decide +kernel
theorem dX7_init_88 : decode cX7_init 88 = .ok (.iload_n 1, 1) := by decide +kernel
theorem dX7_init_89 : decode cX7_init 89 = .ok (.new 46, 3) := by decide +kernel
theorem dX7_init_92 : decode cX7_init 92 = .ok (.dup, 1) := by decide +kernel
theorem dX7_init_93 : decode cX7_init 93 = .ok (.invokespecial 52, 3) := by decide +kernel
theorem dX7_init_96 : decode cX7_init 96 = .ok (.aastore, 1) := by decide +kernel
theorem dX7_init_97 : decode cX7_init 97 = .ok (.iinc 1 1, 3) := by decide +kernel
theorem dX7_init_100 : decode cX7_init 100 = .ok (.goto (-22), 3) := by decide +kernel
theorem dX7_init_103 : decode cX7_init 103 = .ok (.aload_n 0, 1) := by decide +kernel
theorem dX7_init_104 : decode cX7_init 104 = .ok (.new 16, 3) := by decide +kernel
theorem dX7_init_107 : decode cX7_init 107 = .ok (.dup, 1) := by decide +kernel
theorem dX7_init_108 : decode cX7_init 108 = .ok (.invokespecial 18, 3) := by decide +kernel
theorem dX7_init_111 : decode cX7_init 111 = .ok (.putfield 53, 3) := by decide +kernel
theorem dX7_init_114 : decode cX7_init 114 = .ok (.aload_n 0, 1) := by decide +kernel
theorem dX7_init_115 : decode cX7_init 115 = .ok (.new 16, 3) := by decide +kernel
theorem dX7_init_118 : decode cX7_init 118 = .ok (.dup, 1) := by decide +kernel
theorem dX7_init_119 : decode cX7_init 119 = .ok (.invokespecial 18, 3) := by decide +kernel
theorem dX7_init_122 : decode cX7_init 122 = .ok (.putfield 56, 3) := by decide +kernel
theorem dX7_init_125 : decode cX7_init 125 = .ok (.return_, 1) := by decide +kernel
theorem dX7_append_0 : decode cX7_append 0 = .ok (.iload_n 1, 1) := by decide +kernel
theorem dX7_append_1 : decode cX7_append 1 = .ok (.iconst 1, 1) := by decide +kernel
theorem dX7_append_2 : decode cX7_append 2 = .ok (.sipush 255, 3) := by decide +kernel
theorem dX7_append_5 : decode cX7_append 5 = .ok (.invokestatic 59, 3) := by decide +kernel
theorem dX7_append_8 : decode cX7_append 8 = .ok (.ifCond .ne 7, 3) := by decide +kernel
theorem dX7_append_11 : decode cX7_append 11 = .ok (.sipush (-10001), 3) := by decide +kernel
theorem dX7_append_14 : decode cX7_append 14 = .ok (.ireturn, 1) := by decide +kernel
theorem dX7_append_15 : decode cX7_append 15 = .ok (.aload_n 0, 1) := by decide +kernel
theorem dX7_append_16 : decode cX7_append 16 = .ok (.getfield 12, 3) := by decide +kernel
theorem dX7_append_19 : decode cX7_append 19 = .ok (.invokevirtual 63, 3) := by decide +kernel
theorem dX7_append_22 : decode cX7_append 22 = .ok (.ifCond .eq 7, 3) := by decide +kernel
theorem dX7_append_25 : decode cX7_append 25 = .ok (.sipush (-10003), 3) := by decide +kernel
theorem dX7_append_28 : decode cX7_append 28 = .ok (.ireturn, 1) := by decide +kernel
theorem dX7_append_29 : decode cX7_append 29 = .ok (.aload_n 0, 1) := by decide +kernel
theorem dX7_append_30 : decode cX7_append 30 = .ok (.getfield 12, 3) := by decide +kernel
theorem dX7_append_33 : decode cX7_append 33 = .ok (.iload_n 1, 1) := by decide +kernel
theorem dX7_append_34 : decode cX7_append 34 = .ok (.i2c, 1) := by decide +kernel
theorem dX7_append_35 : decode cX7_append 35 = .ok (.invokevirtual 67, 3) := by decide +kernel
theorem dX7_append_38 : decode cX7_append 38 = .ok (.aload_n 0, 1) := by decide +kernel
theorem dX7_append_39 : decode cX7_append 39 = .ok (.getfield 12, 3) := by decide +kernel
theorem dX7_append_42 : decode cX7_append 42 = .ok (.getfield 71, 3) := by decide +kernel
theorem dX7_append_45 : decode cX7_append 45 = .ok (.ireturn, 1) := by decide +kernel
theorem dX7_clearText_0 : decode cX7_clearText 0 = .ok (.aload_n 0, 1) := by decide +kernel
theorem dX7_clearText_1 : decode cX7_clearText 1 = .ok (.getfield 12, 3) := by decide +kernel
theorem dX7_clearText_4 : decode cX7_clearText 4 = .ok (.getfield 71, 3) := by decide +kernel
theorem dX7_clearText_7 : decode cX7_clearText 7 = .ok (.istore_n 1, 1) := by decide +kernel
theorem dX7_clearText_8 : decode cX7_clearText 8 = .ok (.aload_n 0, 1) := by decide +kernel
theorem dX7_clearText_9 : decode cX7_clearText 9 = .ok (.getfield 12, 3) := by decide +kernel
theorem dX7_clearText_12 : decode cX7_clearText 12 = .ok (.iconst 0, 1) := by decide +kernel
theorem dX7_clearText_13 : decode cX7_clearText 13 = .ok (.putfield 71, 3) := by decide +kernel
theorem dX7_clearText_16 : decode cX7_clearText 16 = .ok (.iload_n 1, 1) := by decide +kernel
theorem dX7_clearText_17 : decode cX7_clearText 17 = .ok (.ireturn, 1) := by decide +kernel
theorem dX7_read_0 : decode cX7_read 0 = .ok (.iload_n 1, 1) := by decide +kernel
theorem dX7_read_1 : decode cX7_read 1 = .ok (.invokestatic 75, 3) := by decide +kernel
theorem dX7_read_4 : decode cX7_read 4 = .ok (.ifCond .ne 7, 3) := by decide +kernel
theorem dX7_read_7 : decode cX7_read 7 = .ok (.sipush (-10001), 3) := by decide +kernel
theorem dX7_read_10 : decode cX7_read 10 = .ok (.ireturn, 1) := by decide +kernel
theorem dX7_read_11 : decode cX7_read 11 = .ok (.aload_n 0, 1) := by decide +kernel
theorem dX7_read_12 : decode cX7_read 12 = .ok (.getfield 28, 3) := by decide +kernel
theorem dX7_read_15 : decode cX7_read 15 = .ok (.invokevirtual 79, 3) := by decide +kernel
theorem dX7_read_18 : decode cX7_read 18 = .ok (.ifCond .ne 15, 3) := by decide +kernel
theorem dX7_read_21 : decode cX7_read 21 = .ok (.sipush (-1000), 3) := by decide +kernel
theorem dX7_read_24 : decode cX7_read 24 = .ok (.aload_n 0, 1) := by decide +kernel
theorem dX7_read_25 : decode cX7_read 25 = .ok (.getfield 28, 3) := by decide +kernel
theorem dX7_read_28 : decode cX7_read 28 = .ok (.getfield 82, 3) := by decide +kernel
theorem dX7_read_31 : decode cX7_read 31 = .ok (.isub, 1) := by decide +kernel
theorem dX7_read_32 : decode cX7_read 32 = .ok (.ireturn, 1) := by decide +kernel
theorem dX7_read_33 : decode cX7_read 33 = .ok (.aload_n 0, 1) := by decide +kernel
theorem dX7_read_34 : decode cX7_read 34 = .ok (.getfield 35, 3) := by decide +kernel
theorem dX7_read_37 : decode cX7_read 37 = .ok (.aload_n 0, 1) := by decide +kernel
theorem dX7_read_38 : decode cX7_read 38 = .ok (.getfield 53, 3) := by decide +kernel
theorem dX7_read_41 : decode cX7_read 41 = .ok (.aload_n 0, 1) := by decide +kernel
theorem dX7_read_42 : decode cX7_read 42 = .ok (.getfield 56, 3) := by decide +kernel
theorem dX7_read_45 : decode cX7_read 45 = .ok (.invokevirtual 85, 3) := by decide +kernel
theorem dX7_read_48 : decode cX7_read 48 = .ok (.aload_n 0, 1) := by decide +kernel
theorem dX7_read_49 : decode cX7_read 49 = .ok (.iload_n 1, 1) := by decide +kernel
theorem dX7_read_50 : decode cX7_read 50 = .ok (.invokevirtual 89, 3) := by decide +kernel
theorem dX7_read_53 : decode cX7_read 53 = .ok (.astore_n 2, 1) := by decide +kernel
theorem dX7_read_54 : decode cX7_read 54 = .ok (.aload_n 2, 1) := by decide +kernel
theorem dX7_read_55 : decode cX7_read 55 = .ok (.aload_n 0, 1) := by decide +kernel
theorem dX7_read_56 : decode cX7_read 56 = .ok (.getfield 19, 3) := by decide +kernel
theorem dX7_read_59 : decode cX7_read 59 = .ok (.invokevirtual 93, 3) := by decide +kernel
theorem dX7_read_62 : decode cX7_read 62 = .ok (.aload_n 2, 1) := by decide +kernel
theorem dX7_read_63 : decode cX7_read 63 = .ok (.getfield 97, 3) := by decide +kernel
theorem dX7_read_66 : decode cX7_read 66 = .ok (.ireturn, 1) := by decide +kernel
theorem dX7_copy_0 : decode cX7_copy 0 = .ok (.aload_n 0, 1) := by decide +kernel
theorem dX7_copy_1 : decode cX7_copy 1 = .ok (.getfield 35, 3) := by decide +kernel
theorem dX7_copy_4 : decode cX7_copy 4 = .ok (.aload_n 0, 1) := by decide +kernel
theorem dX7_copy_5 : decode cX7_copy 5 = .ok (.getfield 53, 3) := by decide +kernel
theorem dX7_copy_8 : decode cX7_copy 8 = .ok (.aload_n 0, 1) := by decide +kernel
theorem dX7_copy_9 : decode cX7_copy 9 = .ok (.getfield 56, 3) := by decide +kernel
theorem dX7_copy_12 : decode cX7_copy 12 = .ok (.invokevirtual 85, 3) := by decide +kernel
theorem dX7_copy_15 : decode cX7_copy 15 = .ok (.aload_n 0, 1) := by decide +kernel
theorem dX7_copy_16 : decode cX7_copy 16 = .ok (.getfield 56, 3) := by decide +kernel
theorem dX7_copy_19 : decode cX7_copy 19 = .ok (.aload_n 0, 1) := by decide +kernel
theorem dX7_copy_20 : decode cX7_copy 20 = .ok (.getfield 53, 3) := by decide +kernel
theorem dX7_copy_23 : decode cX7_copy 23 = .ok (.invokevirtual 93, 3) := by decide +kernel
theorem dX7_copy_26 : decode cX7_copy 26 = .ok (.aload_n 0, 1) := by decide +kernel
theorem dX7_copy_27 : decode cX7_copy 27 = .ok (.getfield 56, 3) := by decide +kernel
theorem dX7_copy_30 : decode cX7_copy 30 = .ok (.getfield 97, 3) := by decide +kernel
theorem dX7_copy_33 : decode cX7_copy 33 = .ok (.ireturn, 1) := by decide +kernel
theorem dX7_exchange_0 : decode cX7_exchange 0 = .ok (.aload_n 0, 1) := by decide +kernel
theorem dX7_exchange_1 : decode cX7_exchange 1 = .ok (.getfield 35, 3) := by decide +kernel
theorem dX7_exchange_4 : decode cX7_exchange 4 = .ok (.aload_n 0, 1) := by decide +kernel
theorem dX7_exchange_5 : decode cX7_exchange 5 = .ok (.getfield 53, 3) := by decide +kernel
theorem dX7_exchange_8 : decode cX7_exchange 8 = .ok (.aload_n 0, 1) := by decide +kernel
theorem dX7_exchange_9 : decode cX7_exchange 9 = .ok (.getfield 56, 3) := by decide +kernel
theorem dX7_exchange_12 : decode cX7_exchange 12 = .ok (.invokevirtual 85, 3) := by decide +kernel
theorem dX7_exchange_15 : decode cX7_exchange 15 = .ok (.aload_n 0, 1) := by decide +kernel
theorem dX7_exchange_16 : decode cX7_exchange 16 = .ok (.getfield 53, 3) := by decide +kernel
theorem dX7_exchange_19 : decode cX7_exchange 19 = .ok (.astore_n 1, 1) := by decide +kernel
theorem dX7_exchange_20 : decode cX7_exchange 20 = .ok (.aload_n 0, 1) := by decide +kernel
theorem dX7_exchange_21 : decode cX7_exchange 21 = .ok (.aload_n 0, 1) := by decide +kernel
theorem dX7_exchange_22 : decode cX7_exchange 22 = .ok (.getfield 56, 3) := by decide +kernel
theorem dX7_exchange_25 : decode cX7_exchange 25 = .ok (.putfield 53, 3) := by decide +kernel
theorem dX7_exchange_28 : decode cX7_exchange 28 = .ok (.aload_n 0, 1) := by decide +kernel
theorem dX7_exchange_29 : decode cX7_exchange 29 = .ok (.aload_n 1, 1) := by decide +kernel
theorem dX7_exchange_30 : decode cX7_exchange 30 = .ok (.putfield 56, 3) := by decide +kernel
theorem dX7_exchange_33 : decode cX7_exchange 33 = .ok (.aload_n 0, 1) := by decide +kernel
theorem dX7_exchange_34 : decode cX7_exchange 34 = .ok (.getfield 53, 3) := by decide +kernel
theorem dX7_exchange_37 : decode cX7_exchange 37 = .ok (.getfield 97, 3) := by decide +kernel
theorem dX7_exchange_40 : decode cX7_exchange 40 = .ok (.ireturn, 1) := by decide +kernel
theorem dX7_cut_0 : decode cX7_cut 0 = .ok (.iload_n 1, 1) := by decide +kernel
theorem dX7_cut_1 : decode cX7_cut 1 = .ok (.invokestatic 75, 3) := by decide +kernel
theorem dX7_cut_4 : decode cX7_cut 4 = .ok (.ifCond .eq 15, 3) := by decide +kernel
theorem dX7_cut_7 : decode cX7_cut 7 = .ok (.aload_n 0, 1) := by decide +kernel
theorem dX7_cut_8 : decode cX7_cut 8 = .ok (.iload_n 1, 1) := by decide +kernel
theorem dX7_cut_9 : decode cX7_cut 9 = .ok (.invokevirtual 89, 3) := by decide +kernel
theorem dX7_cut_12 : decode cX7_cut 12 = .ok (.iload_n 2, 1) := by decide +kernel
theorem dX7_cut_13 : decode cX7_cut 13 = .ok (.invokevirtual 100, 3) := by decide +kernel
theorem dX7_cut_16 : decode cX7_cut 16 = .ok (.ifCond .ne 7, 3) := by decide +kernel
theorem dX7_cut_19 : decode cX7_cut 19 = .ok (.sipush (-10001), 3) := by decide +kernel
theorem dX7_cut_22 : decode cX7_cut 22 = .ok (.ireturn, 1) := by decide +kernel
theorem dX7_cut_23 : decode cX7_cut 23 = .ok (.aload_n 0, 1) := by decide +kernel
theorem dX7_cut_24 : decode cX7_cut 24 = .ok (.getfield 35, 3) := by decide +kernel
theorem dX7_cut_27 : decode cX7_cut 27 = .ok (.aload_n 0, 1) := by decide +kernel
theorem dX7_cut_28 : decode cX7_cut 28 = .ok (.getfield 53, 3) := by decide +kernel
theorem dX7_cut_31 : decode cX7_cut 31 = .ok (.aload_n 0, 1) := by decide +kernel
theorem dX7_cut_32 : decode cX7_cut 32 = .ok (.getfield 56, 3) := by decide +kernel
theorem dX7_cut_35 : decode cX7_cut 35 = .ok (.invokevirtual 85, 3) := by decide +kernel
theorem dX7_cut_38 : decode cX7_cut 38 = .ok (.aload_n 0, 1) := by decide +kernel
theorem dX7_cut_39 : decode cX7_cut 39 = .ok (.iload_n 1, 1) := by decide +kernel
theorem dX7_cut_40 : decode cX7_cut 40 = .ok (.invokevirtual 89, 3) := by decide +kernel
theorem dX7_cut_43 : decode cX7_cut 43 = .ok (.astore_n 3, 1) := by decide +kernel
theorem dX7_cut_44 : decode cX7_cut 44 = .ok (.aload_n 3, 1) := by decide +kernel
theorem dX7_cut_45 : decode cX7_cut 45 = .ok (.iload_n 2, 1) := by decide +kernel
theorem dX7_cut_46 : decode cX7_cut 46 = .ok (.invokevirtual 103, 3) := by decide +kernel
theorem dX7_cut_49 : decode cX7_cut 49 = .ok (.aload_n 3, 1) := by decide +kernel
theorem dX7_cut_50 : decode cX7_cut 50 = .ok (.getfield 97, 3) := by decide +kernel
theorem dX7_cut_53 : decode cX7_cut 53 = .ok (.ireturn, 1) := by decide +kernel
theorem dX7_undo_0 : decode cX7_undo 0 = .ok (.aload_n 0, 1) := by decide +kernel
theorem dX7_undo_1 : decode cX7_undo 1 = .ok (.getfield 35, 3) := by decide +kernel
theorem dX7_undo_4 : decode cX7_undo 4 = .ok (.getfield 107, 3) := by decide +kernel
theorem dX7_undo_7 : decode cX7_undo 7 = .ok (.ifCond .ne 7, 3) := by decide +kernel
theorem dX7_undo_10 : decode cX7_undo 10 = .ok (.sipush (-10002), 3) := by decide +kernel
theorem dX7_undo_13 : decode cX7_undo 13 = .ok (.ireturn, 1) := by decide +kernel
theorem dX7_undo_14 : decode cX7_undo 14 = .ok (.aload_n 0, 1) := by decide +kernel
theorem dX7_undo_15 : decode cX7_undo 15 = .ok (.getfield 35, 3) := by decide +kernel
theorem dX7_undo_18 : decode cX7_undo 18 = .ok (.aload_n 0, 1) := by decide +kernel
theorem dX7_undo_19 : decode cX7_undo 19 = .ok (.getfield 53, 3) := by decide +kernel
theorem dX7_undo_22 : decode cX7_undo 22 = .ok (.aload_n 0, 1) := by decide +kernel
theorem dX7_undo_23 : decode cX7_undo 23 = .ok (.getfield 56, 3) := by decide +kernel
theorem dX7_undo_26 : decode cX7_undo 26 = .ok (.invokevirtual 108, 3) := by decide +kernel
theorem dX7_undo_29 : decode cX7_undo 29 = .ok (.aload_n 0, 1) := by decide +kernel
theorem dX7_undo_30 : decode cX7_undo 30 = .ok (.getfield 35, 3) := by decide +kernel
theorem dX7_undo_33 : decode cX7_undo 33 = .ok (.getfield 107, 3) := by decide +kernel
theorem dX7_undo_36 : decode cX7_undo 36 = .ok (.ireturn, 1) := by decide +kernel
theorem dX7_count_0 : decode cX7_count 0 = .ok (.iload_n 1, 1) := by decide +kernel
theorem dX7_count_1 : decode cX7_count 1 = .ok (.tableswitch 63 0 3 #[31, 39, 47, 55], 31) := by decide +kernel
theorem dX7_count_32 : decode cX7_count 32 = .ok (.aload_n 0, 1) := by decide +kernel
theorem dX7_count_33 : decode cX7_count 33 = .ok (.getfield 53, 3) := by decide +kernel
theorem dX7_count_36 : decode cX7_count 36 = .ok (.getfield 97, 3) := by decide +kernel
theorem dX7_count_39 : decode cX7_count 39 = .ok (.ireturn, 1) := by decide +kernel
theorem dX7_count_40 : decode cX7_count 40 = .ok (.aload_n 0, 1) := by decide +kernel
theorem dX7_count_41 : decode cX7_count 41 = .ok (.getfield 56, 3) := by decide +kernel
theorem dX7_count_44 : decode cX7_count 44 = .ok (.getfield 97, 3) := by decide +kernel
theorem dX7_count_47 : decode cX7_count 47 = .ok (.ireturn, 1) := by decide +kernel
theorem dX7_count_48 : decode cX7_count 48 = .ok (.aload_n 0, 1) := by decide +kernel
theorem dX7_count_49 : decode cX7_count 49 = .ok (.getfield 35, 3) := by decide +kernel
theorem dX7_count_52 : decode cX7_count 52 = .ok (.getfield 107, 3) := by decide +kernel
theorem dX7_count_55 : decode cX7_count 55 = .ok (.ireturn, 1) := by decide +kernel
theorem dX7_count_56 : decode cX7_count 56 = .ok (.aload_n 0, 1) := by decide +kernel
theorem dX7_count_57 : decode cX7_count 57 = .ok (.getfield 12, 3) := by decide +kernel
theorem dX7_count_60 : decode cX7_count 60 = .ok (.getfield 71, 3) := by decide +kernel
theorem dX7_count_63 : decode cX7_count 63 = .ok (.ireturn, 1) := by decide +kernel
theorem dX7_count_64 : decode cX7_count 64 = .ok (.sipush (-10001), 3) := by decide +kernel
theorem dX7_count_67 : decode cX7_count 67 = .ok (.ireturn, 1) := by decide +kernel
theorem dX7_program_0 : decode cX7_program 0 = .ok (.iload_n 1, 1) := by decide +kernel
theorem dX7_program_1 : decode cX7_program 1 = .ok (.invokestatic 75, 3) := by decide +kernel
theorem dX7_program_4 : decode cX7_program 4 = .ok (.ifCond .ne 7, 3) := by decide +kernel
theorem dX7_program_7 : decode cX7_program 7 = .ok (.sipush (-10001), 3) := by decide +kernel
theorem dX7_program_10 : decode cX7_program 10 = .ok (.ireturn, 1) := by decide +kernel
theorem dX7_program_11 : decode cX7_program 11 = .ok (.aload_n 0, 1) := by decide +kernel
theorem dX7_program_12 : decode cX7_program 12 = .ok (.iload_n 1, 1) := by decide +kernel
theorem dX7_program_13 : decode cX7_program 13 = .ok (.invokevirtual 89, 3) := by decide +kernel
theorem dX7_program_16 : decode cX7_program 16 = .ok (.astore_n 3, 1) := by decide +kernel
theorem dX7_program_17 : decode cX7_program 17 = .ok (.iload_n 2, 1) := by decide +kernel
theorem dX7_program_18 : decode cX7_program 18 = .ok (.tableswitch 67 0 7 #[46, 51, 51, 51, 51, 51, 57, 62], 46) := by decide +kernel
theorem dX7_program_64 : decode cX7_program 64 = .ok (.aload_n 3, 1) := by decide +kernel
theorem dX7_program_65 : decode cX7_program 65 = .ok (.getfield 97, 3) := by decide +kernel
theorem dX7_program_68 : decode cX7_program 68 = .ok (.ireturn, 1) := by decide +kernel
theorem dX7_program_69 : decode cX7_program 69 = .ok (.aload_n 3, 1) := by decide +kernel
theorem dX7_program_70 : decode cX7_program 70 = .ok (.iload_n 2, 1) := by decide +kernel
theorem dX7_program_71 : decode cX7_program 71 = .ok (.invokevirtual 111, 3) := by decide +kernel
theorem dX7_program_74 : decode cX7_program 74 = .ok (.ireturn, 1) := by decide +kernel
theorem dX7_program_75 : decode cX7_program 75 = .ok (.aload_n 3, 1) := by decide +kernel
theorem dX7_program_76 : decode cX7_program 76 = .ok (.invokevirtual 115, 3) := by decide +kernel
theorem dX7_program_79 : decode cX7_program 79 = .ok (.ireturn, 1) := by decide +kernel
theorem dX7_program_80 : decode cX7_program 80 = .ok (.aload_n 3, 1) := by decide +kernel
theorem dX7_program_81 : decode cX7_program 81 = .ok (.invokevirtual 119, 3) := by decide +kernel
theorem dX7_program_84 : decode cX7_program 84 = .ok (.ireturn, 1) := by decide +kernel
theorem dX7_program_85 : decode cX7_program 85 = .ok (.sipush (-10001), 3) := by decide +kernel
theorem dX7_program_88 : decode cX7_program 88 = .ok (.ireturn, 1) := by decide +kernel
theorem dX7_run_0 : decode cX7_run 0 = .ok (.iload_n 1, 1) := by decide +kernel
theorem dX7_run_1 : decode cX7_run 1 = .ok (.invokestatic 75, 3) := by decide +kernel
theorem dX7_run_4 : decode cX7_run 4 = .ok (.ifCond .eq 21, 3) := by decide +kernel
theorem dX7_run_7 : decode cX7_run 7 = .ok (.iload_n 2, 1) := by decide +kernel
theorem dX7_run_8 : decode cX7_run 8 = .ok (.iload_n 3, 1) := by decide +kernel
theorem dX7_run_9 : decode cX7_run 9 = .ok (.invokestatic 122, 3) := by decide +kernel
theorem dX7_run_12 : decode cX7_run 12 = .ok (.ifCond .eq 13, 3) := by decide +kernel
theorem dX7_run_15 : decode cX7_run 15 = .ok (.iload 4, 2) := by decide +kernel
theorem dX7_run_17 : decode cX7_run 17 = .ok (.iconst 0, 1) := by decide +kernel
theorem dX7_run_18 : decode cX7_run 18 = .ok (.iconst 5, 1) := by decide +kernel
theorem dX7_run_19 : decode cX7_run 19 = .ok (.invokestatic 59, 3) := by decide +kernel
theorem dX7_run_22 : decode cX7_run 22 = .ok (.ifCond .ne 7, 3) := by decide +kernel
theorem dX7_run_25 : decode cX7_run 25 = .ok (.sipush (-10001), 3) := by decide +kernel
theorem dX7_run_28 : decode cX7_run 28 = .ok (.ireturn, 1) := by decide +kernel
theorem dX7_run_29 : decode cX7_run 29 = .ok (.aload_n 0, 1) := by decide +kernel
theorem dX7_run_30 : decode cX7_run 30 = .ok (.iload_n 1, 1) := by decide +kernel
theorem dX7_run_31 : decode cX7_run 31 = .ok (.iload_n 2, 1) := by decide +kernel
theorem dX7_run_32 : decode cX7_run 32 = .ok (.iload_n 3, 1) := by decide +kernel
theorem dX7_run_33 : decode cX7_run 33 = .ok (.invokevirtual 126, 3) := by decide +kernel
theorem dX7_run_36 : decode cX7_run 36 = .ok (.astore 5, 2) := by decide +kernel
theorem dX7_run_38 : decode cX7_run 38 = .ok (.iload 4, 2) := by decide +kernel
theorem dX7_run_40 : decode cX7_run 40 = .ok (.tableswitch 80 0 4 #[36, 42, 59, 68, 74], 36) := by decide +kernel
theorem dX7_run_76 : decode cX7_run 76 = .ok (.aload 5, 2) := by decide +kernel
theorem dX7_run_78 : decode cX7_run 78 = .ok (.getfield 130, 3) := by decide +kernel
theorem dX7_run_81 : decode cX7_run 81 = .ok (.ireturn, 1) := by decide +kernel
theorem dX7_run_82 : decode cX7_run 82 = .ok (.aload 5, 2) := by decide +kernel
theorem dX7_run_84 : decode cX7_run 84 = .ok (.getfield 135, 3) := by decide +kernel
theorem dX7_run_87 : decode cX7_run 87 = .ok (.getfield 139, 3) := by decide +kernel
theorem dX7_run_90 : decode cX7_run 90 = .ok (.ifCond .eq 7, 3) := by decide +kernel
theorem dX7_run_93 : decode cX7_run 93 = .ok (.iconst 1, 1) := by decide +kernel
theorem dX7_run_94 : decode cX7_run 94 = .ok (.goto 4, 3) := by decide +kernel
theorem dX7_run_97 : decode cX7_run 97 = .ok (.iconst 0, 1) := by decide +kernel
theorem dX7_run_98 : decode cX7_run 98 = .ok (.ireturn, 1) := by decide +kernel
theorem dX7_run_99 : decode cX7_run 99 = .ok (.aload 5, 2) := by decide +kernel
theorem dX7_run_101 : decode cX7_run 101 = .ok (.getfield 135, 3) := by decide +kernel
theorem dX7_run_104 : decode cX7_run 104 = .ok (.getfield 143, 3) := by decide +kernel
theorem dX7_run_107 : decode cX7_run 107 = .ok (.ireturn, 1) := by decide +kernel
theorem dX7_run_108 : decode cX7_run 108 = .ok (.aload 5, 2) := by decide +kernel
theorem dX7_run_110 : decode cX7_run 110 = .ok (.getfield 146, 3) := by decide +kernel
theorem dX7_run_113 : decode cX7_run 113 = .ok (.ireturn, 1) := by decide +kernel
theorem dX7_run_114 : decode cX7_run 114 = .ok (.aload 5, 2) := by decide +kernel
theorem dX7_run_116 : decode cX7_run 116 = .ok (.getfield 149, 3) := by decide +kernel
theorem dX7_run_119 : decode cX7_run 119 = .ok (.ireturn, 1) := by decide +kernel
theorem dX7_run_120 : decode cX7_run 120 = .ok (.aload 5, 2) := by decide +kernel
theorem dX7_run_122 : decode cX7_run 122 = .ok (.getfield 152, 3) := by decide +kernel
theorem dX7_run_125 : decode cX7_run 125 = .ok (.ireturn, 1) := by decide +kernel
theorem dX7_told_0 : decode cX7_told 0 = .ok (.iload_n 1, 1) := by decide +kernel
theorem dX7_told_1 : decode cX7_told 1 = .ok (.invokestatic 75, 3) := by decide +kernel
theorem dX7_told_4 : decode cX7_told 4 = .ok (.ifCond .eq 16, 3) := by decide +kernel
theorem dX7_told_7 : decode cX7_told 7 = .ok (.iload_n 2, 1) := by decide +kernel
theorem dX7_told_8 : decode cX7_told 8 = .ok (.iload_n 3, 1) := by decide +kernel
theorem dX7_told_9 : decode cX7_told 9 = .ok (.invokestatic 122, 3) := by decide +kernel
theorem dX7_told_12 : decode cX7_told 12 = .ok (.ifCond .eq 8, 3) := by decide +kernel
theorem dX7_told_15 : decode cX7_told 15 = .ok (.iload 4, 2) := by decide +kernel
theorem dX7_told_17 : decode cX7_told 17 = .ok (.ifCond .ge 7, 3) := by decide +kernel
theorem dX7_told_20 : decode cX7_told 20 = .ok (.sipush (-10001), 3) := by decide +kernel
theorem dX7_told_23 : decode cX7_told 23 = .ok (.ireturn, 1) := by decide +kernel
theorem dX7_told_24 : decode cX7_told 24 = .ok (.aload_n 0, 1) := by decide +kernel
theorem dX7_told_25 : decode cX7_told 25 = .ok (.iload_n 1, 1) := by decide +kernel
theorem dX7_told_26 : decode cX7_told 26 = .ok (.iload_n 2, 1) := by decide +kernel
theorem dX7_told_27 : decode cX7_told 27 = .ok (.iload_n 3, 1) := by decide +kernel
theorem dX7_told_28 : decode cX7_told 28 = .ok (.invokevirtual 126, 3) := by decide +kernel
theorem dX7_told_31 : decode cX7_told 31 = .ok (.getfield 135, 3) := by decide +kernel
theorem dX7_told_34 : decode cX7_told 34 = .ok (.iload 4, 2) := by decide +kernel
theorem dX7_told_36 : decode cX7_told 36 = .ok (.invokevirtual 155, 3) := by decide +kernel
theorem dX7_told_39 : decode cX7_told 39 = .ok (.ireturn, 1) := by decide +kernel
theorem dX7_cell_0 : decode cX7_cell 0 = .ok (.iload_n 1, 1) := by decide +kernel
theorem dX7_cell_1 : decode cX7_cell 1 = .ok (.invokestatic 75, 3) := by decide +kernel
theorem dX7_cell_4 : decode cX7_cell 4 = .ok (.ifCond .eq 25, 3) := by decide +kernel
theorem dX7_cell_7 : decode cX7_cell 7 = .ok (.iload_n 2, 1) := by decide +kernel
theorem dX7_cell_8 : decode cX7_cell 8 = .ok (.iload_n 3, 1) := by decide +kernel
theorem dX7_cell_9 : decode cX7_cell 9 = .ok (.invokestatic 122, 3) := by decide +kernel
theorem dX7_cell_12 : decode cX7_cell 12 = .ok (.ifCond .eq 17, 3) := by decide +kernel
theorem dX7_cell_15 : decode cX7_cell 15 = .ok (.iload 4, 2) := by decide +kernel
theorem dX7_cell_17 : decode cX7_cell 17 = .ok (.iconst (-1), 1) := by decide +kernel
theorem dX7_cell_18 : decode cX7_cell 18 = .ok (.if_icmp .lt 11, 3) := by decide +kernel
theorem dX7_cell_21 : decode cX7_cell 21 = .ok (.iload 5, 2) := by decide +kernel
theorem dX7_cell_23 : decode cX7_cell 23 = .ok (.invokestatic 158, 3) := by decide +kernel
theorem dX7_cell_26 : decode cX7_cell 26 = .ok (.ifCond .ne 7, 3) := by decide +kernel
theorem dX7_cell_29 : decode cX7_cell 29 = .ok (.sipush (-10001), 3) := by decide +kernel
theorem dX7_cell_32 : decode cX7_cell 32 = .ok (.ireturn, 1) := by decide +kernel
theorem dX7_cell_33 : decode cX7_cell 33 = .ok (.aload_n 0, 1) := by decide +kernel
theorem dX7_cell_34 : decode cX7_cell 34 = .ok (.iload_n 1, 1) := by decide +kernel
theorem dX7_cell_35 : decode cX7_cell 35 = .ok (.iload_n 2, 1) := by decide +kernel
theorem dX7_cell_36 : decode cX7_cell 36 = .ok (.iload_n 3, 1) := by decide +kernel
theorem dX7_cell_37 : decode cX7_cell 37 = .ok (.invokevirtual 126, 3) := by decide +kernel
theorem dX7_cell_40 : decode cX7_cell 40 = .ok (.astore 6, 2) := by decide +kernel
theorem dX7_cell_42 : decode cX7_cell 42 = .ok (.iload 4, 2) := by decide +kernel
theorem dX7_cell_44 : decode cX7_cell 44 = .ok (.iconst (-1), 1) := by decide +kernel
theorem dX7_cell_45 : decode cX7_cell 45 = .ok (.if_icmp .ne 13, 3) := by decide +kernel
theorem dX7_cell_48 : decode cX7_cell 48 = .ok (.aload 6, 2) := by decide +kernel
theorem dX7_cell_50 : decode cX7_cell 50 = .ok (.iload 5, 2) := by decide +kernel
theorem dX7_cell_52 : decode cX7_cell 52 = .ok (.invokevirtual 161, 3) := by decide +kernel
theorem dX7_cell_55 : decode cX7_cell 55 = .ok (.goto 12, 3) := by decide +kernel
theorem dX7_cell_58 : decode cX7_cell 58 = .ok (.aload 6, 2) := by decide +kernel
theorem dX7_cell_60 : decode cX7_cell 60 = .ok (.iload 4, 2) := by decide +kernel
theorem dX7_cell_62 : decode cX7_cell 62 = .ok (.iload 5, 2) := by decide +kernel
theorem dX7_cell_64 : decode cX7_cell 64 = .ok (.invokevirtual 164, 3) := by decide +kernel
theorem dX7_cell_67 : decode cX7_cell 67 = .ok (.ireturn, 1) := by decide +kernel
theorem dX7_pairs_0 : decode cX7_pairs 0 = .ok (.iload_n 1, 1) := by decide +kernel
theorem dX7_pairs_1 : decode cX7_pairs 1 = .ok (.iload_n 2, 1) := by decide +kernel
theorem dX7_pairs_2 : decode cX7_pairs 2 = .ok (.invokestatic 122, 3) := by decide +kernel
theorem dX7_pairs_5 : decode cX7_pairs 5 = .ok (.ifCond .eq 12, 3) := by decide +kernel
theorem dX7_pairs_8 : decode cX7_pairs 8 = .ok (.iload_n 3, 1) := by decide +kernel
theorem dX7_pairs_9 : decode cX7_pairs 9 = .ok (.iconst 0, 1) := by decide +kernel
theorem dX7_pairs_10 : decode cX7_pairs 10 = .ok (.iconst 3, 1) := by decide +kernel
theorem dX7_pairs_11 : decode cX7_pairs 11 = .ok (.invokestatic 59, 3) := by decide +kernel
theorem dX7_pairs_14 : decode cX7_pairs 14 = .ok (.ifCond .ne 7, 3) := by decide +kernel
theorem dX7_pairs_17 : decode cX7_pairs 17 = .ok (.sipush (-10001), 3) := by decide +kernel
theorem dX7_pairs_20 : decode cX7_pairs 20 = .ok (.ireturn, 1) := by decide +kernel
theorem dX7_pairs_21 : decode cX7_pairs 21 = .ok (.aload_n 0, 1) := by decide +kernel
theorem dX7_pairs_22 : decode cX7_pairs 22 = .ok (.getfield 42, 3) := by decide +kernel
theorem dX7_pairs_25 : decode cX7_pairs 25 = .ok (.aload_n 0, 1) := by decide +kernel
theorem dX7_pairs_26 : decode cX7_pairs 26 = .ok (.getfield 53, 3) := by decide +kernel
theorem dX7_pairs_29 : decode cX7_pairs 29 = .ok (.aload_n 0, 1) := by decide +kernel
theorem dX7_pairs_30 : decode cX7_pairs 30 = .ok (.getfield 56, 3) := by decide +kernel
theorem dX7_pairs_33 : decode cX7_pairs 33 = .ok (.iload_n 1, 1) := by decide +kernel
theorem dX7_pairs_34 : decode cX7_pairs 34 = .ok (.iload_n 2, 1) := by decide +kernel
theorem dX7_pairs_35 : decode cX7_pairs 35 = .ok (.invokevirtual 168, 3) := by decide +kernel
theorem dX7_pairs_38 : decode cX7_pairs 38 = .ok (.iload_n 3, 1) := by decide +kernel
theorem dX7_pairs_39 : decode cX7_pairs 39 = .ok (.tableswitch 49 0 2 #[25, 33, 41], 25) := by decide +kernel
theorem dX7_pairs_64 : decode cX7_pairs 64 = .ok (.aload_n 0, 1) := by decide +kernel
theorem dX7_pairs_65 : decode cX7_pairs 65 = .ok (.getfield 42, 3) := by decide +kernel
theorem dX7_pairs_68 : decode cX7_pairs 68 = .ok (.invokevirtual 172, 3) := by decide +kernel
theorem dX7_pairs_71 : decode cX7_pairs 71 = .ok (.ireturn, 1) := by decide +kernel
theorem dX7_pairs_72 : decode cX7_pairs 72 = .ok (.aload_n 0, 1) := by decide +kernel
theorem dX7_pairs_73 : decode cX7_pairs 73 = .ok (.getfield 42, 3) := by decide +kernel
theorem dX7_pairs_76 : decode cX7_pairs 76 = .ok (.invokevirtual 175, 3) := by decide +kernel
theorem dX7_pairs_79 : decode cX7_pairs 79 = .ok (.ireturn, 1) := by decide +kernel
theorem dX7_pairs_80 : decode cX7_pairs 80 = .ok (.aload_n 0, 1) := by decide +kernel
theorem dX7_pairs_81 : decode cX7_pairs 81 = .ok (.getfield 42, 3) := by decide +kernel
theorem dX7_pairs_84 : decode cX7_pairs 84 = .ok (.invokevirtual 178, 3) := by decide +kernel
theorem dX7_pairs_87 : decode cX7_pairs 87 = .ok (.ireturn, 1) := by decide +kernel
theorem dX7_pairs_88 : decode cX7_pairs 88 = .ok (.aload_n 0, 1) := by decide +kernel
theorem dX7_pairs_89 : decode cX7_pairs 89 = .ok (.getfield 42, 3) := by decide +kernel
theorem dX7_pairs_92 : decode cX7_pairs 92 = .ok (.invokevirtual 181, 3) := by decide +kernel
theorem dX7_pairs_95 : decode cX7_pairs 95 = .ok (.ireturn, 1) := by decide +kernel
theorem dX7_equal_0 : decode cX7_equal 0 = .ok (.iload_n 1, 1) := by decide +kernel
theorem dX7_equal_1 : decode cX7_equal 1 = .ok (.iload_n 2, 1) := by decide +kernel
theorem dX7_equal_2 : decode cX7_equal 2 = .ok (.invokestatic 122, 3) := by decide +kernel
theorem dX7_equal_5 : decode cX7_equal 5 = .ok (.ifCond .eq 10, 3) := by decide +kernel
theorem dX7_equal_8 : decode cX7_equal 8 = .ok (.iload_n 3, 1) := by decide +kernel
theorem dX7_equal_9 : decode cX7_equal 9 = .ok (.invokestatic 158, 3) := by decide +kernel
theorem dX7_equal_12 : decode cX7_equal 12 = .ok (.ifCond .ne 7, 3) := by decide +kernel
theorem dX7_equal_15 : decode cX7_equal 15 = .ok (.sipush (-10001), 3) := by decide +kernel
theorem dX7_equal_18 : decode cX7_equal 18 = .ok (.ireturn, 1) := by decide +kernel
theorem dX7_equal_19 : decode cX7_equal 19 = .ok (.aload_n 0, 1) := by decide +kernel
theorem dX7_equal_20 : decode cX7_equal 20 = .ok (.getfield 42, 3) := by decide +kernel
theorem dX7_equal_23 : decode cX7_equal 23 = .ok (.aload_n 0, 1) := by decide +kernel
theorem dX7_equal_24 : decode cX7_equal 24 = .ok (.getfield 53, 3) := by decide +kernel
theorem dX7_equal_27 : decode cX7_equal 27 = .ok (.aload_n 0, 1) := by decide +kernel
theorem dX7_equal_28 : decode cX7_equal 28 = .ok (.getfield 56, 3) := by decide +kernel
theorem dX7_equal_31 : decode cX7_equal 31 = .ok (.iload_n 1, 1) := by decide +kernel
theorem dX7_equal_32 : decode cX7_equal 32 = .ok (.iload_n 2, 1) := by decide +kernel
theorem dX7_equal_33 : decode cX7_equal 33 = .ok (.invokevirtual 168, 3) := by decide +kernel
theorem dX7_equal_36 : decode cX7_equal 36 = .ok (.aload_n 0, 1) := by decide +kernel
theorem dX7_equal_37 : decode cX7_equal 37 = .ok (.getfield 42, 3) := by decide +kernel
theorem dX7_equal_40 : decode cX7_equal 40 = .ok (.iload_n 3, 1) := by decide +kernel
theorem dX7_equal_41 : decode cX7_equal 41 = .ok (.invokevirtual 184, 3) := by decide +kernel
theorem dX7_equal_44 : decode cX7_equal 44 = .ok (.ireturn, 1) := by decide +kernel
theorem dX7_difference_0 : decode cX7_difference 0 = .ok (.iload_n 1, 1) := by decide +kernel
theorem dX7_difference_1 : decode cX7_difference 1 = .ok (.iload_n 2, 1) := by decide +kernel
theorem dX7_difference_2 : decode cX7_difference 2 = .ok (.invokestatic 122, 3) := by decide +kernel
theorem dX7_difference_5 : decode cX7_difference 5 = .ok (.ifCond .ne 7, 3) := by decide +kernel
theorem dX7_difference_8 : decode cX7_difference 8 = .ok (.sipush (-10001), 3) := by decide +kernel
theorem dX7_difference_11 : decode cX7_difference 11 = .ok (.ireturn, 1) := by decide +kernel
theorem dX7_difference_12 : decode cX7_difference 12 = .ok (.aload_n 0, 1) := by decide +kernel
theorem dX7_difference_13 : decode cX7_difference 13 = .ok (.getfield 42, 3) := by decide +kernel
theorem dX7_difference_16 : decode cX7_difference 16 = .ok (.aload_n 0, 1) := by decide +kernel
theorem dX7_difference_17 : decode cX7_difference 17 = .ok (.getfield 53, 3) := by decide +kernel
theorem dX7_difference_20 : decode cX7_difference 20 = .ok (.aload_n 0, 1) := by decide +kernel
theorem dX7_difference_21 : decode cX7_difference 21 = .ok (.getfield 56, 3) := by decide +kernel
theorem dX7_difference_24 : decode cX7_difference 24 = .ok (.iload_n 1, 1) := by decide +kernel
theorem dX7_difference_25 : decode cX7_difference 25 = .ok (.iload_n 2, 1) := by decide +kernel
theorem dX7_difference_26 : decode cX7_difference 26 = .ok (.invokevirtual 168, 3) := by decide +kernel
theorem dX7_difference_29 : decode cX7_difference 29 = .ok (.aload_n 0, 1) := by decide +kernel
theorem dX7_difference_30 : decode cX7_difference 30 = .ok (.getfield 42, 3) := by decide +kernel
theorem dX7_difference_33 : decode cX7_difference 33 = .ok (.getfield 187, 3) := by decide +kernel
theorem dX7_difference_36 : decode cX7_difference 36 = .ok (.getfield 135, 3) := by decide +kernel
theorem dX7_difference_39 : decode cX7_difference 39 = .ok (.aload_n 0, 1) := by decide +kernel
theorem dX7_difference_40 : decode cX7_difference 40 = .ok (.getfield 42, 3) := by decide +kernel
theorem dX7_difference_43 : decode cX7_difference 43 = .ok (.getfield 190, 3) := by decide +kernel
theorem dX7_difference_46 : decode cX7_difference 46 = .ok (.getfield 135, 3) := by decide +kernel
theorem dX7_difference_49 : decode cX7_difference 49 = .ok (.invokevirtual 192, 3) := by decide +kernel
theorem dX7_difference_52 : decode cX7_difference 52 = .ok (.ireturn, 1) := by decide +kernel
theorem dX7_agree_0 : decode cX7_agree 0 = .ok (.iload_n 1, 1) := by decide +kernel
theorem dX7_agree_1 : decode cX7_agree 1 = .ok (.bipush (-9), 2) := by decide +kernel
theorem dX7_agree_3 : decode cX7_agree 3 = .ok (.bipush 9, 2) := by decide +kernel
theorem dX7_agree_5 : decode cX7_agree 5 = .ok (.invokestatic 59, 3) := by decide +kernel
theorem dX7_agree_8 : decode cX7_agree 8 = .ok (.ifCond .eq 22, 3) := by decide +kernel
theorem dX7_agree_11 : decode cX7_agree 11 = .ok (.iload_n 2, 1) := by decide +kernel
theorem dX7_agree_12 : decode cX7_agree 12 = .ok (.iload_n 1, 1) := by decide +kernel
theorem dX7_agree_13 : decode cX7_agree 13 = .ok (.bipush 9, 2) := by decide +kernel
theorem dX7_agree_15 : decode cX7_agree 15 = .ok (.invokestatic 59, 3) := by decide +kernel
theorem dX7_agree_18 : decode cX7_agree 18 = .ok (.ifCond .eq 12, 3) := by decide +kernel
theorem dX7_agree_21 : decode cX7_agree 21 = .ok (.iload_n 3, 1) := by decide +kernel
theorem dX7_agree_22 : decode cX7_agree 22 = .ok (.iconst 0, 1) := by decide +kernel
theorem dX7_agree_23 : decode cX7_agree 23 = .ok (.iconst 2, 1) := by decide +kernel
theorem dX7_agree_24 : decode cX7_agree 24 = .ok (.invokestatic 59, 3) := by decide +kernel
theorem dX7_agree_27 : decode cX7_agree 27 = .ok (.ifCond .ne 7, 3) := by decide +kernel
theorem dX7_agree_30 : decode cX7_agree 30 = .ok (.sipush (-10001), 3) := by decide +kernel
theorem dX7_agree_33 : decode cX7_agree 33 = .ok (.ireturn, 1) := by decide +kernel
theorem dX7_agree_34 : decode cX7_agree 34 = .ok (.iconst 0, 1) := by decide +kernel
theorem dX7_agree_35 : decode cX7_agree 35 = .ok (.istore 4, 2) := by decide +kernel
theorem dX7_agree_37 : decode cX7_agree 37 = .ok (.iload_n 1, 1) := by decide +kernel
theorem dX7_agree_38 : decode cX7_agree 38 = .ok (.istore 5, 2) := by decide +kernel
theorem dX7_agree_40 : decode cX7_agree 40 = .ok (.iload 5, 2) := by decide +kernel
theorem dX7_agree_42 : decode cX7_agree 42 = .ok (.iload_n 2, 1) := by decide +kernel
theorem dX7_agree_43 : decode cX7_agree 43 = .ok (.if_icmp .gt 76, 3) := by decide +kernel
theorem dX7_agree_46 : decode cX7_agree 46 = .ok (.iload_n 1, 1) := by decide +kernel
theorem dX7_agree_47 : decode cX7_agree 47 = .ok (.istore 6, 2) := by decide +kernel
theorem dX7_agree_49 : decode cX7_agree 49 = .ok (.iload 6, 2) := by decide +kernel
theorem dX7_agree_51 : decode cX7_agree 51 = .ok (.iload_n 2, 1) := by decide +kernel
theorem dX7_agree_52 : decode cX7_agree 52 = .ok (.if_icmp .gt 61, 3) := by decide +kernel
theorem dX7_agree_55 : decode cX7_agree 55 = .ok (.aload_n 0, 1) := by decide +kernel
theorem dX7_agree_56 : decode cX7_agree 56 = .ok (.getfield 42, 3) := by decide +kernel
theorem dX7_agree_59 : decode cX7_agree 59 = .ok (.aload_n 0, 1) := by decide +kernel
theorem dX7_agree_60 : decode cX7_agree 60 = .ok (.getfield 53, 3) := by decide +kernel
theorem dX7_agree_63 : decode cX7_agree 63 = .ok (.aload_n 0, 1) := by decide +kernel
theorem dX7_agree_64 : decode cX7_agree 64 = .ok (.getfield 56, 3) := by decide +kernel
theorem dX7_agree_67 : decode cX7_agree 67 = .ok (.iload 5, 2) := by decide +kernel
theorem dX7_agree_69 : decode cX7_agree 69 = .ok (.iload 6, 2) := by decide +kernel
theorem dX7_agree_71 : decode cX7_agree 71 = .ok (.invokevirtual 168, 3) := by decide +kernel
theorem dX7_agree_74 : decode cX7_agree 74 = .ok (.aload_n 0, 1) := by decide +kernel
theorem dX7_agree_75 : decode cX7_agree 75 = .ok (.getfield 42, 3) := by decide +kernel
theorem dX7_agree_78 : decode cX7_agree 78 = .ok (.invokevirtual 196, 3) := by decide +kernel
theorem dX7_agree_81 : decode cX7_agree 81 = .ok (.ifCond .eq 9, 3) := by decide +kernel
theorem dX7_agree_84 : decode cX7_agree 84 = .ok (.iinc 4 1, 3) := by decide +kernel
theorem dX7_agree_87 : decode cX7_agree 87 = .ok (.goto 20, 3) := by decide +kernel
theorem dX7_agree_90 : decode cX7_agree 90 = .ok (.iload_n 3, 1) := by decide +kernel
theorem dX7_agree_91 : decode cX7_agree 91 = .ok (.ifCond .eq 16, 3) := by decide +kernel
theorem dX7_agree_94 : decode cX7_agree 94 = .ok (.iload_n 3, 1) := by decide +kernel
theorem dX7_agree_95 : decode cX7_agree 95 = .ok (.iconst 1, 1) := by decide +kernel
theorem dX7_agree_96 : decode cX7_agree 96 = .ok (.if_icmp .ne 8, 3) := by decide +kernel
theorem dX7_agree_99 : decode cX7_agree 99 = .ok (.iload 5, 2) := by decide +kernel
theorem dX7_agree_101 : decode cX7_agree 101 = .ok (.goto 5, 3) := by decide +kernel
theorem dX7_agree_104 : decode cX7_agree 104 = .ok (.iload 6, 2) := by decide +kernel
theorem dX7_agree_106 : decode cX7_agree 106 = .ok (.ireturn, 1) := by decide +kernel
theorem dX7_agree_107 : decode cX7_agree 107 = .ok (.iinc 6 1, 3) := by decide +kernel
theorem dX7_agree_110 : decode cX7_agree 110 = .ok (.goto (-61), 3) := by decide +kernel
theorem dX7_agree_113 : decode cX7_agree 113 = .ok (.iinc 5 1, 3) := by decide +kernel
theorem dX7_agree_116 : decode cX7_agree 116 = .ok (.goto (-76), 3) := by decide +kernel
theorem dX7_agree_119 : decode cX7_agree 119 = .ok (.iload_n 3, 1) := by decide +kernel
theorem dX7_agree_120 : decode cX7_agree 120 = .ok (.ifCond .ne 8, 3) := by decide +kernel
theorem dX7_agree_123 : decode cX7_agree 123 = .ok (.iload 4, 2) := by decide +kernel
theorem dX7_agree_125 : decode cX7_agree 125 = .ok (.goto 6, 3) := by decide +kernel
theorem dX7_agree_128 : decode cX7_agree 128 = .ok (.sipush (-10009), 3) := by decide +kernel
theorem dX7_agree_131 : decode cX7_agree 131 = .ok (.ireturn, 1) := by decide +kernel
theorem dX7_always_0 : decode cX7_always 0 = .ok (.iload_n 1, 1) := by decide +kernel
theorem dX7_always_1 : decode cX7_always 1 = .ok (.invokestatic 158, 3) := by decide +kernel
theorem dX7_always_4 : decode cX7_always 4 = .ok (.ifCond .ne 7, 3) := by decide +kernel
theorem dX7_always_7 : decode cX7_always 7 = .ok (.sipush (-10001), 3) := by decide +kernel
theorem dX7_always_10 : decode cX7_always 10 = .ok (.ireturn, 1) := by decide +kernel
theorem dX7_always_11 : decode cX7_always 11 = .ok (.bipush 63, 2) := by decide +kernel
theorem dX7_always_13 : decode cX7_always 13 = .ok (.istore_n 2, 1) := by decide +kernel
theorem dX7_always_14 : decode cX7_always 14 = .ok (.iconst 0, 1) := by decide +kernel
theorem dX7_always_15 : decode cX7_always 15 = .ok (.istore_n 3, 1) := by decide +kernel
theorem dX7_always_16 : decode cX7_always 16 = .ok (.iload_n 3, 1) := by decide +kernel
theorem dX7_always_17 : decode cX7_always 17 = .ok (.bipush 16, 2) := by decide +kernel
theorem dX7_always_19 : decode cX7_always 19 = .ok (.if_icmp .ge 43, 3) := by decide +kernel
theorem dX7_always_22 : decode cX7_always 22 = .ok (.aload_n 0, 1) := by decide +kernel
theorem dX7_always_23 : decode cX7_always 23 = .ok (.getfield 42, 3) := by decide +kernel
theorem dX7_always_26 : decode cX7_always 26 = .ok (.aload_n 0, 1) := by decide +kernel
theorem dX7_always_27 : decode cX7_always 27 = .ok (.getfield 53, 3) := by decide +kernel
theorem dX7_always_30 : decode cX7_always 30 = .ok (.aload_n 0, 1) := by decide +kernel
theorem dX7_always_31 : decode cX7_always 31 = .ok (.getfield 56, 3) := by decide +kernel
theorem dX7_always_34 : decode cX7_always 34 = .ok (.iload_n 3, 1) := by decide +kernel
theorem dX7_always_35 : decode cX7_always 35 = .ok (.invokestatic 199, 3) := by decide +kernel
theorem dX7_always_38 : decode cX7_always 38 = .ok (.iload_n 3, 1) := by decide +kernel
theorem dX7_always_39 : decode cX7_always 39 = .ok (.invokestatic 202, 3) := by decide +kernel
theorem dX7_always_42 : decode cX7_always 42 = .ok (.invokevirtual 168, 3) := by decide +kernel
theorem dX7_always_45 : decode cX7_always 45 = .ok (.iload_n 2, 1) := by decide +kernel
theorem dX7_always_46 : decode cX7_always 46 = .ok (.aload_n 0, 1) := by decide +kernel
theorem dX7_always_47 : decode cX7_always 47 = .ok (.getfield 42, 3) := by decide +kernel
theorem dX7_always_50 : decode cX7_always 50 = .ok (.iload_n 1, 1) := by decide +kernel
theorem dX7_always_51 : decode cX7_always 51 = .ok (.invokevirtual 184, 3) := by decide +kernel
theorem dX7_always_54 : decode cX7_always 54 = .ok (.iand, 1) := by decide +kernel
theorem dX7_always_55 : decode cX7_always 55 = .ok (.istore_n 2, 1) := by decide +kernel
theorem dX7_always_56 : decode cX7_always 56 = .ok (.iinc 3 1, 3) := by decide +kernel
theorem dX7_always_59 : decode cX7_always 59 = .ok (.goto (-43), 3) := by decide +kernel
theorem dX7_always_62 : decode cX7_always 62 = .ok (.iload_n 2, 1) := by decide +kernel
theorem dX7_always_63 : decode cX7_always 63 = .ok (.ireturn, 1) := by decide +kernel
theorem dX7_idle_0 : decode cX7_idle 0 = .ok (.iload_n 1, 1) := by decide +kernel
theorem dX7_idle_1 : decode cX7_idle 1 = .ok (.invokestatic 75, 3) := by decide +kernel
theorem dX7_idle_4 : decode cX7_idle 4 = .ok (.ifCond .ne 7, 3) := by decide +kernel
theorem dX7_idle_7 : decode cX7_idle 7 = .ok (.sipush (-10001), 3) := by decide +kernel
theorem dX7_idle_10 : decode cX7_idle 10 = .ok (.ireturn, 1) := by decide +kernel
theorem dX7_idle_11 : decode cX7_idle 11 = .ok (.aload_n 0, 1) := by decide +kernel
theorem dX7_idle_12 : decode cX7_idle 12 = .ok (.iload_n 1, 1) := by decide +kernel
theorem dX7_idle_13 : decode cX7_idle 13 = .ok (.invokevirtual 89, 3) := by decide +kernel
theorem dX7_idle_16 : decode cX7_idle 16 = .ok (.astore_n 2, 1) := by decide +kernel
theorem dX7_idle_17 : decode cX7_idle 17 = .ok (.aload_n 0, 1) := by decide +kernel
theorem dX7_idle_18 : decode cX7_idle 18 = .ok (.aload_n 2, 1) := by decide +kernel
theorem dX7_idle_19 : decode cX7_idle 19 = .ok (.invokevirtual 205, 3) := by decide +kernel
theorem dX7_idle_22 : decode cX7_idle 22 = .ok (.iconst 0, 1) := by decide +kernel
theorem dX7_idle_23 : decode cX7_idle 23 = .ok (.istore_n 3, 1) := by decide +kernel
theorem dX7_idle_24 : decode cX7_idle 24 = .ok (.iload_n 3, 1) := by decide +kernel
theorem dX7_idle_25 : decode cX7_idle 25 = .ok (.aload_n 2, 1) := by decide +kernel
theorem dX7_idle_26 : decode cX7_idle 26 = .ok (.getfield 97, 3) := by decide +kernel
theorem dX7_idle_29 : decode cX7_idle 29 = .ok (.if_icmp .ge 38, 3) := by decide +kernel
theorem dX7_idle_32 : decode cX7_idle 32 = .ok (.aload_n 0, 1) := by decide +kernel
theorem dX7_idle_33 : decode cX7_idle 33 = .ok (.getfield 19, 3) := by decide +kernel
theorem dX7_idle_36 : decode cX7_idle 36 = .ok (.aload_n 2, 1) := by decide +kernel
theorem dX7_idle_37 : decode cX7_idle 37 = .ok (.invokevirtual 93, 3) := by decide +kernel
theorem dX7_idle_40 : decode cX7_idle 40 = .ok (.aload_n 0, 1) := by decide +kernel
theorem dX7_idle_41 : decode cX7_idle 41 = .ok (.getfield 19, 3) := by decide +kernel
theorem dX7_idle_44 : decode cX7_idle 44 = .ok (.iload_n 3, 1) := by decide +kernel
theorem dX7_idle_45 : decode cX7_idle 45 = .ok (.invokevirtual 103, 3) := by decide +kernel
theorem dX7_idle_48 : decode cX7_idle 48 = .ok (.aload_n 0, 1) := by decide +kernel
theorem dX7_idle_49 : decode cX7_idle 49 = .ok (.aload_n 0, 1) := by decide +kernel
theorem dX7_idle_50 : decode cX7_idle 50 = .ok (.getfield 19, 3) := by decide +kernel
theorem dX7_idle_53 : decode cX7_idle 53 = .ok (.invokevirtual 208, 3) := by decide +kernel
theorem dX7_idle_56 : decode cX7_idle 56 = .ok (.ifCond .eq 5, 3) := by decide +kernel
theorem dX7_idle_59 : decode cX7_idle 59 = .ok (.iload_n 3, 1) := by decide +kernel
theorem dX7_idle_60 : decode cX7_idle 60 = .ok (.ireturn, 1) := by decide +kernel
theorem dX7_idle_61 : decode cX7_idle 61 = .ok (.iinc 3 1, 3) := by decide +kernel
theorem dX7_idle_64 : decode cX7_idle 64 = .ok (.goto (-40), 3) := by decide +kernel
theorem dX7_idle_67 : decode cX7_idle 67 = .ok (.sipush (-10009), 3) := by decide +kernel
theorem dX7_idle_70 : decode cX7_idle 70 = .ok (.ireturn, 1) := by decide +kernel
theorem dX7_keepOutputsOf_0 : decode cX7_keepOutputsOf 0 = .ok (.aload_n 0, 1) := by decide +kernel
theorem dX7_keepOutputsOf_1 : decode cX7_keepOutputsOf 1 = .ok (.getfield 42, 3) := by decide +kernel
theorem dX7_keepOutputsOf_4 : decode cX7_keepOutputsOf 4 = .ok (.getfield 187, 3) := by decide +kernel
theorem dX7_keepOutputsOf_7 : decode cX7_keepOutputsOf 7 = .ok (.astore_n 2, 1) := by decide +kernel
theorem dX7_keepOutputsOf_8 : decode cX7_keepOutputsOf 8 = .ok (.iconst 0, 1) := by decide +kernel
theorem dX7_keepOutputsOf_9 : decode cX7_keepOutputsOf 9 = .ok (.istore_n 3, 1) := by decide +kernel
theorem dX7_keepOutputsOf_10 : decode cX7_keepOutputsOf 10 = .ok (.iload_n 3, 1) := by decide +kernel
theorem dX7_keepOutputsOf_11 : decode cX7_keepOutputsOf 11 = .ok (.bipush 16, 2) := by decide +kernel
theorem dX7_keepOutputsOf_13 : decode cX7_keepOutputsOf 13 = .ok (.if_icmp .ge 35, 3) := by decide +kernel
theorem dX7_keepOutputsOf_16 : decode cX7_keepOutputsOf 16 = .ok (.aload_n 2, 1) := by decide +kernel
theorem dX7_keepOutputsOf_17 : decode cX7_keepOutputsOf 17 = .ok (.aload_n 1, 1) := by decide +kernel
theorem dX7_keepOutputsOf_18 : decode cX7_keepOutputsOf 18 = .ok (.iload_n 3, 1) := by decide +kernel
theorem dX7_keepOutputsOf_19 : decode cX7_keepOutputsOf 19 = .ok (.invokestatic 199, 3) := by decide +kernel
theorem dX7_keepOutputsOf_22 : decode cX7_keepOutputsOf 22 = .ok (.iload_n 3, 1) := by decide +kernel
theorem dX7_keepOutputsOf_23 : decode cX7_keepOutputsOf 23 = .ok (.invokestatic 202, 3) := by decide +kernel
theorem dX7_keepOutputsOf_26 : decode cX7_keepOutputsOf 26 = .ok (.invokevirtual 212, 3) := by decide +kernel
theorem dX7_keepOutputsOf_29 : decode cX7_keepOutputsOf 29 = .ok (.aload_n 0, 1) := by decide +kernel
theorem dX7_keepOutputsOf_30 : decode cX7_keepOutputsOf 30 = .ok (.getfield 48, 3) := by decide +kernel
theorem dX7_keepOutputsOf_33 : decode cX7_keepOutputsOf 33 = .ok (.iload_n 3, 1) := by decide +kernel
theorem dX7_keepOutputsOf_34 : decode cX7_keepOutputsOf 34 = .ok (.aaload, 1) := by decide +kernel
theorem dX7_keepOutputsOf_35 : decode cX7_keepOutputsOf 35 = .ok (.aload_n 2, 1) := by decide +kernel
theorem dX7_keepOutputsOf_36 : decode cX7_keepOutputsOf 36 = .ok (.getfield 135, 3) := by decide +kernel
theorem dX7_keepOutputsOf_39 : decode cX7_keepOutputsOf 39 = .ok (.invokevirtual 215, 3) := by decide +kernel
theorem dX7_keepOutputsOf_42 : decode cX7_keepOutputsOf 42 = .ok (.iinc 3 1, 3) := by decide +kernel
theorem dX7_keepOutputsOf_45 : decode cX7_keepOutputsOf 45 = .ok (.goto (-35), 3) := by decide +kernel
theorem dX7_keepOutputsOf_48 : decode cX7_keepOutputsOf 48 = .ok (.return_, 1) := by decide +kernel
theorem dX7_putsOutAsBefore_0 : decode cX7_putsOutAsBefore 0 = .ok (.aload_n 0, 1) := by decide +kernel
theorem dX7_putsOutAsBefore_1 : decode cX7_putsOutAsBefore 1 = .ok (.getfield 42, 3) := by decide +kernel
theorem dX7_putsOutAsBefore_4 : decode cX7_putsOutAsBefore 4 = .ok (.getfield 187, 3) := by decide +kernel
theorem dX7_putsOutAsBefore_7 : decode cX7_putsOutAsBefore 7 = .ok (.astore_n 2, 1) := by decide +kernel
theorem dX7_putsOutAsBefore_8 : decode cX7_putsOutAsBefore 8 = .ok (.iconst 0, 1) := by decide +kernel
theorem dX7_putsOutAsBefore_9 : decode cX7_putsOutAsBefore 9 = .ok (.istore_n 3, 1) := by decide +kernel
theorem dX7_putsOutAsBefore_10 : decode cX7_putsOutAsBefore 10 = .ok (.iload_n 3, 1) := by decide +kernel
theorem dX7_putsOutAsBefore_11 : decode cX7_putsOutAsBefore 11 = .ok (.bipush 16, 2) := by decide +kernel
theorem dX7_putsOutAsBefore_13 : decode cX7_putsOutAsBefore 13 = .ok (.if_icmp .ge 59, 3) := by decide +kernel
theorem dX7_putsOutAsBefore_16 : decode cX7_putsOutAsBefore 16 = .ok (.aload_n 2, 1) := by decide +kernel
theorem dX7_putsOutAsBefore_17 : decode cX7_putsOutAsBefore 17 = .ok (.aload_n 1, 1) := by decide +kernel
theorem dX7_putsOutAsBefore_18 : decode cX7_putsOutAsBefore 18 = .ok (.iload_n 3, 1) := by decide +kernel
theorem dX7_putsOutAsBefore_19 : decode cX7_putsOutAsBefore 19 = .ok (.invokestatic 199, 3) := by decide +kernel
theorem dX7_putsOutAsBefore_22 : decode cX7_putsOutAsBefore 22 = .ok (.iload_n 3, 1) := by decide +kernel
theorem dX7_putsOutAsBefore_23 : decode cX7_putsOutAsBefore 23 = .ok (.invokestatic 202, 3) := by decide +kernel
theorem dX7_putsOutAsBefore_26 : decode cX7_putsOutAsBefore 26 = .ok (.invokevirtual 212, 3) := by decide +kernel
theorem dX7_putsOutAsBefore_29 : decode cX7_putsOutAsBefore 29 = .ok (.aload_n 0, 1) := by decide +kernel
theorem dX7_putsOutAsBefore_30 : decode cX7_putsOutAsBefore 30 = .ok (.getfield 48, 3) := by decide +kernel
theorem dX7_putsOutAsBefore_33 : decode cX7_putsOutAsBefore 33 = .ok (.iload_n 3, 1) := by decide +kernel
theorem dX7_putsOutAsBefore_34 : decode cX7_putsOutAsBefore 34 = .ok (.aaload, 1) := by decide +kernel
theorem dX7_putsOutAsBefore_35 : decode cX7_putsOutAsBefore 35 = .ok (.astore 4, 2) := by decide +kernel
theorem dX7_putsOutAsBefore_37 : decode cX7_putsOutAsBefore 37 = .ok (.aload 4, 2) := by decide +kernel
theorem dX7_putsOutAsBefore_39 : decode cX7_putsOutAsBefore 39 = .ok (.getfield 139, 3) := by decide +kernel
theorem dX7_putsOutAsBefore_42 : decode cX7_putsOutAsBefore 42 = .ok (.aload_n 2, 1) := by decide +kernel
theorem dX7_putsOutAsBefore_43 : decode cX7_putsOutAsBefore 43 = .ok (.getfield 135, 3) := by decide +kernel
theorem dX7_putsOutAsBefore_46 : decode cX7_putsOutAsBefore 46 = .ok (.getfield 139, 3) := by decide +kernel
theorem dX7_putsOutAsBefore_49 : decode cX7_putsOutAsBefore 49 = .ok (.if_icmp .ne 15, 3) := by decide +kernel
theorem dX7_putsOutAsBefore_52 : decode cX7_putsOutAsBefore 52 = .ok (.aload 4, 2) := by decide +kernel
theorem dX7_putsOutAsBefore_54 : decode cX7_putsOutAsBefore 54 = .ok (.aload_n 2, 1) := by decide +kernel
theorem dX7_putsOutAsBefore_55 : decode cX7_putsOutAsBefore 55 = .ok (.getfield 135, 3) := by decide +kernel
theorem dX7_putsOutAsBefore_58 : decode cX7_putsOutAsBefore 58 = .ok (.invokevirtual 218, 3) := by decide +kernel
theorem dX7_putsOutAsBefore_61 : decode cX7_putsOutAsBefore 61 = .ok (.ifCond .ne 5, 3) := by decide +kernel
theorem dX7_putsOutAsBefore_64 : decode cX7_putsOutAsBefore 64 = .ok (.iconst 0, 1) := by decide +kernel
theorem dX7_putsOutAsBefore_65 : decode cX7_putsOutAsBefore 65 = .ok (.ireturn, 1) := by decide +kernel
theorem dX7_putsOutAsBefore_66 : decode cX7_putsOutAsBefore 66 = .ok (.iinc 3 1, 3) := by decide +kernel
theorem dX7_putsOutAsBefore_69 : decode cX7_putsOutAsBefore 69 = .ok (.goto (-59), 3) := by decide +kernel
theorem dX7_putsOutAsBefore_72 : decode cX7_putsOutAsBefore 72 = .ok (.iconst 1, 1) := by decide +kernel
theorem dX7_putsOutAsBefore_73 : decode cX7_putsOutAsBefore 73 = .ok (.ireturn, 1) := by decide +kernel
theorem dX7_listingOf_0 : decode cX7_listingOf 0 = .ok (.iload_n 1, 1) := by decide +kernel
theorem dX7_listingOf_1 : decode cX7_listingOf 1 = .ok (.ifCond .ne 10, 3) := by decide +kernel
theorem dX7_listingOf_4 : decode cX7_listingOf 4 = .ok (.aload_n 0, 1) := by decide +kernel
theorem dX7_listingOf_5 : decode cX7_listingOf 5 = .ok (.getfield 53, 3) := by decide +kernel
theorem dX7_listingOf_8 : decode cX7_listingOf 8 = .ok (.goto 7, 3) := by decide +kernel
theorem dX7_listingOf_11 : decode cX7_listingOf 11 = .ok (.aload_n 0, 1) := by decide +kernel
theorem dX7_listingOf_12 : decode cX7_listingOf 12 = .ok (.getfield 56, 3) := by decide +kernel
theorem dX7_listingOf_15 : decode cX7_listingOf 15 = .ok (.areturn, 1) := by decide +kernel
theorem dX7_traceOf_0 : decode cX7_traceOf 0 = .ok (.aload_n 0, 1) := by decide +kernel
theorem dX7_traceOf_1 : decode cX7_traceOf 1 = .ok (.getfield 42, 3) := by decide +kernel
theorem dX7_traceOf_4 : decode cX7_traceOf 4 = .ok (.getfield 187, 3) := by decide +kernel
theorem dX7_traceOf_7 : decode cX7_traceOf 7 = .ok (.aload_n 0, 1) := by decide +kernel
theorem dX7_traceOf_8 : decode cX7_traceOf 8 = .ok (.iload_n 1, 1) := by decide +kernel
theorem dX7_traceOf_9 : decode cX7_traceOf 9 = .ok (.invokevirtual 89, 3) := by decide +kernel
theorem dX7_traceOf_12 : decode cX7_traceOf 12 = .ok (.iload_n 2, 1) := by decide +kernel
theorem dX7_traceOf_13 : decode cX7_traceOf 13 = .ok (.iload_n 3, 1) := by decide +kernel
theorem dX7_traceOf_14 : decode cX7_traceOf 14 = .ok (.invokevirtual 212, 3) := by decide +kernel
theorem dX7_traceOf_17 : decode cX7_traceOf 17 = .ok (.aload_n 0, 1) := by decide +kernel
theorem dX7_traceOf_18 : decode cX7_traceOf 18 = .ok (.getfield 42, 3) := by decide +kernel
theorem dX7_traceOf_21 : decode cX7_traceOf 21 = .ok (.getfield 187, 3) := by decide +kernel
theorem dX7_traceOf_24 : decode cX7_traceOf 24 = .ok (.areturn, 1) := by decide +kernel
theorem dX7_triedFirst_0 : decode cX7_triedFirst 0 = .ok (.iload_n 0, 1) := by decide +kernel
theorem dX7_triedFirst_1 : decode cX7_triedFirst 1 = .ok (.iconst 4, 1) := by decide +kernel
theorem dX7_triedFirst_2 : decode cX7_triedFirst 2 = .ok (.idiv, 1) := by decide +kernel
theorem dX7_triedFirst_3 : decode cX7_triedFirst 3 = .ok (.ireturn, 1) := by decide +kernel
theorem dX7_triedSecond_0 : decode cX7_triedSecond 0 = .ok (.iload_n 0, 1) := by decide +kernel
theorem dX7_triedSecond_1 : decode cX7_triedSecond 1 = .ok (.iconst 4, 1) := by decide +kernel
theorem dX7_triedSecond_2 : decode cX7_triedSecond 2 = .ok (.irem, 1) := by decide +kernel
theorem dX7_triedSecond_3 : decode cX7_triedSecond 3 = .ok (.ireturn, 1) := by decide +kernel
theorem dX7_isWithin_0 : decode cX7_isWithin 0 = .ok (.iload_n 0, 1) := by decide +kernel
theorem dX7_isWithin_1 : decode cX7_isWithin 1 = .ok (.iload_n 1, 1) := by decide +kernel
theorem dX7_isWithin_2 : decode cX7_isWithin 2 = .ok (.if_icmp .lt 12, 3) := by decide +kernel
theorem dX7_isWithin_5 : decode cX7_isWithin 5 = .ok (.iload_n 0, 1) := by decide +kernel
theorem dX7_isWithin_6 : decode cX7_isWithin 6 = .ok (.iload_n 2, 1) := by decide +kernel
theorem dX7_isWithin_7 : decode cX7_isWithin 7 = .ok (.if_icmp .gt 7, 3) := by decide +kernel
theorem dX7_isWithin_10 : decode cX7_isWithin 10 = .ok (.iconst 1, 1) := by decide +kernel
theorem dX7_isWithin_11 : decode cX7_isWithin 11 = .ok (.goto 4, 3) := by decide +kernel
theorem dX7_isWithin_14 : decode cX7_isWithin 14 = .ok (.iconst 0, 1) := by decide +kernel
theorem dX7_isWithin_15 : decode cX7_isWithin 15 = .ok (.ireturn, 1) := by decide +kernel
theorem dX7_isProgram_0 : decode cX7_isProgram 0 = .ok (.iload_n 0, 1) := by decide +kernel
theorem dX7_isProgram_1 : decode cX7_isProgram 1 = .ok (.iconst 0, 1) := by decide +kernel
theorem dX7_isProgram_2 : decode cX7_isProgram 2 = .ok (.iconst 1, 1) := by decide +kernel
theorem dX7_isProgram_3 : decode cX7_isProgram 3 = .ok (.invokestatic 59, 3) := by decide +kernel
theorem dX7_isProgram_6 : decode cX7_isProgram 6 = .ok (.ireturn, 1) := by decide +kernel
theorem dX7_isCell_0 : decode cX7_isCell 0 = .ok (.iload_n 0, 1) := by decide +kernel
theorem dX7_isCell_1 : decode cX7_isCell 1 = .ok (.iconst 0, 1) := by decide +kernel
theorem dX7_isCell_2 : decode cX7_isCell 2 = .ok (.iconst 5, 1) := by decide +kernel
theorem dX7_isCell_3 : decode cX7_isCell 3 = .ok (.invokestatic 59, 3) := by decide +kernel
theorem dX7_isCell_6 : decode cX7_isCell 6 = .ok (.ireturn, 1) := by decide +kernel
theorem dX7_isInput_0 : decode cX7_isInput 0 = .ok (.iload_n 0, 1) := by decide +kernel
theorem dX7_isInput_1 : decode cX7_isInput 1 = .ok (.sipush (-999), 3) := by decide +kernel
theorem dX7_isInput_4 : decode cX7_isInput 4 = .ok (.sipush 999, 3) := by decide +kernel
theorem dX7_isInput_7 : decode cX7_isInput 7 = .ok (.invokestatic 59, 3) := by decide +kernel
theorem dX7_isInput_10 : decode cX7_isInput 10 = .ok (.ifCond .eq 20, 3) := by decide +kernel
theorem dX7_isInput_13 : decode cX7_isInput 13 = .ok (.iload_n 1, 1) := by decide +kernel
theorem dX7_isInput_14 : decode cX7_isInput 14 = .ok (.sipush (-999), 3) := by decide +kernel
theorem dX7_isInput_17 : decode cX7_isInput 17 = .ok (.sipush 999, 3) := by decide +kernel
theorem dX7_isInput_20 : decode cX7_isInput 20 = .ok (.invokestatic 59, 3) := by decide +kernel
theorem dX7_isInput_23 : decode cX7_isInput 23 = .ok (.ifCond .eq 7, 3) := by decide +kernel
theorem dX7_isInput_26 : decode cX7_isInput 26 = .ok (.iconst 1, 1) := by decide +kernel
theorem dX7_isInput_27 : decode cX7_isInput 27 = .ok (.goto 4, 3) := by decide +kernel
theorem dX7_isInput_30 : decode cX7_isInput 30 = .ok (.iconst 0, 1) := by decide +kernel
theorem dX7_isInput_31 : decode cX7_isInput 31 = .ok (.ireturn, 1) := by decide +kernel
theorem dX8_init_0 : decode cX8_init 0 = .ok (.aload_n 0, 1) := by decide +kernel
theorem dX8_init_1 : decode cX8_init 1 = .ok (.invokespecial 1, 3) := by decide +kernel
theorem dX8_init_4 : decode cX8_init 4 = .ok (.aload_n 0, 1) := by decide +kernel
theorem dX8_init_5 : decode cX8_init 5 = .ok (.sipush 842, 3) := by decide +kernel
theorem dX8_init_8 : decode cX8_init 8 = .ok (.newarray .int, 2) := by decide +kernel
theorem dX8_init_10 : decode cX8_init 10 = .ok (.putfield 7, 3) := by decide +kernel
theorem dX8_init_13 : decode cX8_init 13 = .ok (.aload_n 0, 1) := by decide +kernel
theorem dX8_init_14 : decode cX8_init 14 = .ok (.sipush 4210, 3) := by decide +kernel
theorem dX8_init_17 : decode cX8_init 17 = .ok (.newarray .int, 2) := by decide +kernel
theorem dX8_init_19 : decode cX8_init 19 = .ok (.putfield 13, 3) := by decide +kernel
theorem dX8_init_22 : decode cX8_init 22 = .ok (.aload_n 0, 1) := by decide +kernel
theorem dX8_init_23 : decode cX8_init 23 = .ok (.bipush 120, 2) := by decide +kernel
theorem dX8_init_25 : decode cX8_init 25 = .ok (.newarray .int, 2) := by decide +kernel
theorem dX8_init_27 : decode cX8_init 27 = .ok (.putfield 16, 3) := by decide +kernel
theorem dX8_init_30 : decode cX8_init 30 = .ok (.aload_n 0, 1) := by decide +kernel
theorem dX8_init_31 : decode cX8_init 31 = .ok (.sipush 421, 3) := by decide +kernel
theorem dX8_init_34 : decode cX8_init 34 = .ok (.newarray .int, 2) := by decide +kernel
theorem dX8_init_36 : decode cX8_init 36 = .ok (.putfield 19, 3) := by decide +kernel
theorem dX8_init_39 : decode cX8_init 39 = .ok (.aload_n 0, 1) := by decide +kernel
theorem dX8_init_40 : decode cX8_init 40 = .ok (.iconst 5, 1) := by decide +kernel
theorem dX8_init_41 : decode cX8_init 41 = .ok (.newarray .int, 2) := by decide +kernel
theorem dX8_init_43 : decode cX8_init 43 = .ok (.putfield 22, 3) := by decide +kernel
theorem dX8_init_46 : decode cX8_init 46 = .ok (.aload_n 0, 1) := by decide +kernel
theorem dX8_init_47 : decode cX8_init 47 = .ok (.iconst 5, 1) := by decide +kernel
theorem dX8_init_48 : decode cX8_init 48 = .ok (.newarray .int, 2) := by decide +kernel
theorem dX8_init_50 : decode cX8_init 50 = .ok (.putfield 25, 3) := by decide +kernel
theorem dX8_init_53 : decode cX8_init 53 = .ok (.aload_n 0, 1) := by decide +kernel
theorem dX8_init_54 : decode cX8_init 54 = .ok (.bipush 12, 2) := by decide +kernel
theorem dX8_init_56 : decode cX8_init 56 = .ok (.newarray .int, 2) := by decide +kernel
theorem dX8_init_58 : decode cX8_init 58 = .ok (.putfield 28, 3) := by decide +kernel
theorem dX8_init_61 : decode cX8_init 61 = .ok (.aload_n 0, 1) := by decide +kernel
theorem dX8_init_62 : decode cX8_init 62 = .ok (.bipush 80, 2) := by decide +kernel
theorem dX8_init_64 : decode cX8_init 64 = .ok (.newarray .int, 2) := by decide +kernel
theorem dX8_init_66 : decode cX8_init 66 = .ok (.putfield 31, 3) := by decide +kernel
theorem dX8_init_69 : decode cX8_init 69 = .ok (.aload_n 0, 1) := by decide +kernel
theorem dX8_init_70 : decode cX8_init 70 = .ok (.bipush 80, 2) := by decide +kernel
theorem dX8_init_72 : decode cX8_init 72 = .ok (.newarray .int, 2) := by decide +kernel
theorem dX8_init_74 : decode cX8_init 74 = .ok (.putfield 34, 3) := by decide +kernel
theorem dX8_init_77 : decode cX8_init 77 = .ok (.aload_n 0, 1) := by decide +kernel
theorem dX8_init_78 : decode cX8_init 78 = .ok (.sipush 480, 3) := by decide +kernel
theorem dX8_init_81 : decode cX8_init 81 = .ok (.newarray .int, 2) := by decide +kernel
theorem dX8_init_83 : decode cX8_init 83 = .ok (.putfield 37, 3) := by decide +kernel
theorem dX8_init_86 : decode cX8_init 86 = .ok (.aload_n 0, 1) := by decide +kernel
theorem dX8_init_87 : decode cX8_init 87 = .ok (.bipush 12, 2) := by decide +kernel
theorem dX8_init_89 : decode cX8_init 89 = .ok (.newarray .int, 2) := by decide +kernel
theorem dX8_init_91 : decode cX8_init 91 = .ok (.putfield 40, 3) := by decide +kernel
theorem dX8_init_94 : decode cX8_init 94 = .ok (.aload_n 0, 1) := by decide +kernel
theorem dX8_init_95 : decode cX8_init 95 = .ok (.bipush 6, 2) := by decide +kernel
theorem dX8_init_97 : decode cX8_init 97 = .ok (.newarray .int, 2) := by decide +kernel
theorem dX8_init_99 : decode cX8_init 99 = .ok (.putfield 43, 3) := by decide +kernel
theorem dX8_init_102 : decode cX8_init 102 = .ok (.aload_n 0, 1) := by decide +kernel
theorem dX8_init_103 : decode cX8_init 103 = .ok (.bipush 6, 2) := by decide +kernel
theorem dX8_init_105 : decode cX8_init 105 = .ok (.newarray .int, 2) := by decide +kernel
theorem dX8_init_107 : decode cX8_init 107 = .ok (.putfield 46, 3) := by decide +kernel
theorem dX8_init_110 : decode cX8_init 110 = .ok (.aload_n 0, 1) := by decide +kernel
theorem dX8_init_111 : decode cX8_init 111 = .ok (.bipush 6, 2) := by decide +kernel
theorem dX8_init_113 : decode cX8_init 113 = .ok (.newarray .int, 2) := by decide +kernel
theorem dX8_init_115 : decode cX8_init 115 = .ok (.putfield 49, 3) := by decide +kernel
theorem dX8_init_118 : decode cX8_init 118 = .ok (.aload_n 0, 1) := by decide +kernel
theorem dX8_init_119 : decode cX8_init 119 = .ok (.sipush 640, 3) := by decide +kernel
theorem dX8_init_122 : decode cX8_init 122 = .ok (.newarray .int, 2) := by decide +kernel
theorem dX8_init_124 : decode cX8_init 124 = .ok (.putfield 52, 3) := by decide +kernel
theorem dX8_init_127 : decode cX8_init 127 = .ok (.aload_n 0, 1) := by decide +kernel
theorem dX8_init_128 : decode cX8_init 128 = .ok (.bipush 16, 2) := by decide +kernel
theorem dX8_init_130 : decode cX8_init 130 = .ok (.newarray .int, 2) := by decide +kernel
theorem dX8_init_132 : decode cX8_init 132 = .ok (.putfield 55, 3) := by decide +kernel
theorem dX8_init_135 : decode cX8_init 135 = .ok (.aload_n 0, 1) := by decide +kernel
theorem dX8_init_136 : decode cX8_init 136 = .ok (.bipush 16, 2) := by decide +kernel
theorem dX8_init_138 : decode cX8_init 138 = .ok (.newarray .int, 2) := by decide +kernel
theorem dX8_init_140 : decode cX8_init 140 = .ok (.putfield 58, 3) := by decide +kernel
theorem dX8_init_143 : decode cX8_init 143 = .ok (.return_, 1) := by decide +kernel
theorem dX8_within_0 : decode cX8_within 0 = .ok (.iload_n 0, 1) := by decide +kernel
theorem dX8_within_1 : decode cX8_within 1 = .ok (.iload_n 1, 1) := by decide +kernel
theorem dX8_within_2 : decode cX8_within 2 = .ok (.if_icmp .lt 12, 3) := by decide +kernel
theorem dX8_within_5 : decode cX8_within 5 = .ok (.iload_n 0, 1) := by decide +kernel
theorem dX8_within_6 : decode cX8_within 6 = .ok (.iload_n 2, 1) := by decide +kernel
theorem dX8_within_7 : decode cX8_within 7 = .ok (.if_icmp .gt 7, 3) := by decide +kernel
theorem dX8_within_10 : decode cX8_within 10 = .ok (.iconst 1, 1) := by decide +kernel
theorem dX8_within_11 : decode cX8_within 11 = .ok (.goto 4, 3) := by decide +kernel
theorem dX8_within_14 : decode cX8_within 14 = .ok (.iconst 0, 1) := by decide +kernel
theorem dX8_within_15 : decode cX8_within 15 = .ok (.ireturn, 1) := by decide +kernel
theorem dX8_isProgram_0 : decode cX8_isProgram 0 = .ok (.iload_n 0, 1) := by decide +kernel
theorem dX8_isProgram_1 : decode cX8_isProgram 1 = .ok (.iconst 0, 1) := by decide +kernel
theorem dX8_isProgram_2 : decode cX8_isProgram 2 = .ok (.iconst 1, 1) := by decide +kernel
theorem dX8_isProgram_3 : decode cX8_isProgram 3 = .ok (.invokestatic 61, 3) := by decide +kernel
theorem dX8_isProgram_6 : decode cX8_isProgram 6 = .ok (.ireturn, 1) := by decide +kernel
theorem dX8_isInput_0 : decode cX8_isInput 0 = .ok (.iload_n 0, 1) := by decide +kernel
theorem dX8_isInput_1 : decode cX8_isInput 1 = .ok (.sipush (-999), 3) := by decide +kernel
theorem dX8_isInput_4 : decode cX8_isInput 4 = .ok (.sipush 999, 3) := by decide +kernel
theorem dX8_isInput_7 : decode cX8_isInput 7 = .ok (.invokestatic 61, 3) := by decide +kernel
theorem dX8_isInput_10 : decode cX8_isInput 10 = .ok (.ifCond .eq 20, 3) := by decide +kernel
theorem dX8_isInput_13 : decode cX8_isInput 13 = .ok (.iload_n 1, 1) := by decide +kernel
theorem dX8_isInput_14 : decode cX8_isInput 14 = .ok (.sipush (-999), 3) := by decide +kernel
theorem dX8_isInput_17 : decode cX8_isInput 17 = .ok (.sipush 999, 3) := by decide +kernel
theorem dX8_isInput_20 : decode cX8_isInput 20 = .ok (.invokestatic 61, 3) := by decide +kernel
theorem dX8_isInput_23 : decode cX8_isInput 23 = .ok (.ifCond .eq 7, 3) := by decide +kernel
theorem dX8_isInput_26 : decode cX8_isInput 26 = .ok (.iconst 1, 1) := by decide +kernel
theorem dX8_isInput_27 : decode cX8_isInput 27 = .ok (.goto 4, 3) := by decide +kernel
theorem dX8_isInput_30 : decode cX8_isInput 30 = .ok (.iconst 0, 1) := by decide +kernel
theorem dX8_isInput_31 : decode cX8_isInput 31 = .ok (.ireturn, 1) := by decide +kernel
theorem dX8_isCell_0 : decode cX8_isCell 0 = .ok (.iload_n 0, 1) := by decide +kernel
theorem dX8_isCell_1 : decode cX8_isCell 1 = .ok (.iconst 0, 1) := by decide +kernel
theorem dX8_isCell_2 : decode cX8_isCell 2 = .ok (.iconst 5, 1) := by decide +kernel
theorem dX8_isCell_3 : decode cX8_isCell 3 = .ok (.invokestatic 61, 3) := by decide +kernel
theorem dX8_isCell_6 : decode cX8_isCell 6 = .ok (.ireturn, 1) := by decide +kernel
theorem dX8_saves_0 : decode cX8_saves 0 = .ok (.aload_n 0, 1) := by decide +kernel
theorem dX8_saves_1 : decode cX8_saves 1 = .ok (.getfield 65, 3) := by decide +kernel
theorem dX8_saves_4 : decode cX8_saves 4 = .ok (.iconst 5, 1) := by decide +kernel
theorem dX8_saves_5 : decode cX8_saves 5 = .ok (.if_icmp .ne 44, 3) := by decide +kernel
theorem dX8_saves_8 : decode cX8_saves 8 = .ok (.iconst 0, 1) := by decide +kernel
theorem dX8_saves_9 : decode cX8_saves 9 = .ok (.istore_n 1, 1) := by decide +kernel
theorem dX8_saves_10 : decode cX8_saves 10 = .ok (.iload_n 1, 1) := by decide +kernel
theorem dX8_saves_11 : decode cX8_saves 11 = .ok (.sipush 3368, 3) := by decide +kernel
theorem dX8_saves_14 : decode cX8_saves 14 = .ok (.if_icmp .ge 25, 3) := by decide +kernel
theorem dX8_saves_17 : decode cX8_saves 17 = .ok (.aload_n 0, 1) := by decide +kernel
theorem dX8_saves_18 : decode cX8_saves 18 = .ok (.getfield 13, 3) := by decide +kernel
theorem dX8_saves_21 : decode cX8_saves 21 = .ok (.iload_n 1, 1) := by decide +kernel
theorem dX8_saves_22 : decode cX8_saves 22 = .ok (.aload_n 0, 1) := by decide +kernel
theorem dX8_saves_23 : decode cX8_saves 23 = .ok (.getfield 13, 3) := by decide +kernel
theorem dX8_saves_26 : decode cX8_saves 26 = .ok (.iload_n 1, 1) := by decide +kernel
theorem dX8_saves_27 : decode cX8_saves 27 = .ok (.sipush 842, 3) := by decide +kernel
theorem dX8_saves_30 : decode cX8_saves 30 = .ok (.iadd, 1) := by decide +kernel
theorem dX8_saves_31 : decode cX8_saves 31 = .ok (.iaload, 1) := by decide +kernel
theorem dX8_saves_32 : decode cX8_saves 32 = .ok (.iastore, 1) := by decide +kernel
theorem dX8_saves_33 : decode cX8_saves 33 = .ok (.iinc 1 1, 3) := by decide +kernel
theorem dX8_saves_36 : decode cX8_saves 36 = .ok (.goto (-26), 3) := by decide +kernel
theorem dX8_saves_39 : decode cX8_saves 39 = .ok (.aload_n 0, 1) := by decide +kernel
theorem dX8_saves_40 : decode cX8_saves 40 = .ok (.dup, 1) := by decide +kernel
theorem dX8_saves_41 : decode cX8_saves 41 = .ok (.getfield 65, 3) := by decide +kernel
theorem dX8_saves_44 : decode cX8_saves 44 = .ok (.iconst 1, 1) := by decide +kernel
theorem dX8_saves_45 : decode cX8_saves 45 = .ok (.isub, 1) := by decide +kernel
theorem dX8_saves_46 : decode cX8_saves 46 = .ok (.putfield 65, 3) := by decide +kernel
theorem dX8_saves_49 : decode cX8_saves 49 = .ok (.iconst 0, 1) := by decide +kernel
theorem dX8_saves_50 : decode cX8_saves 50 = .ok (.istore_n 1, 1) := by decide +kernel
theorem dX8_saves_51 : decode cX8_saves 51 = .ok (.iload_n 1, 1) := by decide +kernel
theorem dX8_saves_52 : decode cX8_saves 52 = .ok (.sipush 842, 3) := by decide +kernel
theorem dX8_saves_55 : decode cX8_saves 55 = .ok (.if_icmp .ge 30, 3) := by decide +kernel
theorem dX8_saves_58 : decode cX8_saves 58 = .ok (.aload_n 0, 1) := by decide +kernel
theorem dX8_saves_59 : decode cX8_saves 59 = .ok (.getfield 13, 3) := by decide +kernel
theorem dX8_saves_62 : decode cX8_saves 62 = .ok (.sipush 842, 3) := by decide +kernel
theorem dX8_saves_65 : decode cX8_saves 65 = .ok (.aload_n 0, 1) := by decide +kernel
theorem dX8_saves_66 : decode cX8_saves 66 = .ok (.getfield 65, 3) := by decide +kernel
theorem dX8_saves_69 : decode cX8_saves 69 = .ok (.imul, 1) := by decide +kernel
theorem dX8_saves_70 : decode cX8_saves 70 = .ok (.iload_n 1, 1) := by decide +kernel
theorem dX8_saves_71 : decode cX8_saves 71 = .ok (.iadd, 1) := by decide +kernel
theorem dX8_saves_72 : decode cX8_saves 72 = .ok (.aload_n 0, 1) := by decide +kernel
theorem dX8_saves_73 : decode cX8_saves 73 = .ok (.getfield 7, 3) := by decide +kernel
theorem dX8_saves_76 : decode cX8_saves 76 = .ok (.iload_n 1, 1) := by decide +kernel
theorem dX8_saves_77 : decode cX8_saves 77 = .ok (.iaload, 1) := by decide +kernel
theorem dX8_saves_78 : decode cX8_saves 78 = .ok (.iastore, 1) := by decide +kernel
theorem dX8_saves_79 : decode cX8_saves 79 = .ok (.iinc 1 1, 3) := by decide +kernel
theorem dX8_saves_82 : decode cX8_saves 82 = .ok (.goto (-31), 3) := by decide +kernel
theorem dX8_saves_85 : decode cX8_saves 85 = .ok (.aload_n 0, 1) := by decide +kernel
theorem dX8_saves_86 : decode cX8_saves 86 = .ok (.dup, 1) := by decide +kernel
theorem dX8_saves_87 : decode cX8_saves 87 = .ok (.getfield 65, 3) := by decide +kernel
theorem dX8_saves_90 : decode cX8_saves 90 = .ok (.iconst 1, 1) := by decide +kernel
theorem dX8_saves_91 : decode cX8_saves 91 = .ok (.iadd, 1) := by decide +kernel
theorem dX8_saves_92 : decode cX8_saves 92 = .ok (.putfield 65, 3) := by decide +kernel
theorem dX8_saves_95 : decode cX8_saves 95 = .ok (.return_, 1) := by decide +kernel
theorem dX8_undo_0 : decode cX8_undo 0 = .ok (.aload_n 0, 1) := by decide +kernel
theorem dX8_undo_1 : decode cX8_undo 1 = .ok (.getfield 65, 3) := by decide +kernel
theorem dX8_undo_4 : decode cX8_undo 4 = .ok (.ifCond .ne 7, 3) := by decide +kernel
theorem dX8_undo_7 : decode cX8_undo 7 = .ok (.sipush (-10002), 3) := by decide +kernel
theorem dX8_undo_10 : decode cX8_undo 10 = .ok (.ireturn, 1) := by decide +kernel
theorem dX8_undo_11 : decode cX8_undo 11 = .ok (.aload_n 0, 1) := by decide +kernel
theorem dX8_undo_12 : decode cX8_undo 12 = .ok (.dup, 1) := by decide +kernel
theorem dX8_undo_13 : decode cX8_undo 13 = .ok (.getfield 65, 3) := by decide +kernel
theorem dX8_undo_16 : decode cX8_undo 16 = .ok (.iconst 1, 1) := by decide +kernel
theorem dX8_undo_17 : decode cX8_undo 17 = .ok (.isub, 1) := by decide +kernel
theorem dX8_undo_18 : decode cX8_undo 18 = .ok (.putfield 65, 3) := by decide +kernel
theorem dX8_undo_21 : decode cX8_undo 21 = .ok (.iconst 0, 1) := by decide +kernel
theorem dX8_undo_22 : decode cX8_undo 22 = .ok (.istore_n 1, 1) := by decide +kernel
theorem dX8_undo_23 : decode cX8_undo 23 = .ok (.iload_n 1, 1) := by decide +kernel
theorem dX8_undo_24 : decode cX8_undo 24 = .ok (.sipush 842, 3) := by decide +kernel
theorem dX8_undo_27 : decode cX8_undo 27 = .ok (.if_icmp .ge 30, 3) := by decide +kernel
theorem dX8_undo_30 : decode cX8_undo 30 = .ok (.aload_n 0, 1) := by decide +kernel
theorem dX8_undo_31 : decode cX8_undo 31 = .ok (.getfield 7, 3) := by decide +kernel
theorem dX8_undo_34 : decode cX8_undo 34 = .ok (.iload_n 1, 1) := by decide +kernel
theorem dX8_undo_35 : decode cX8_undo 35 = .ok (.aload_n 0, 1) := by decide +kernel
theorem dX8_undo_36 : decode cX8_undo 36 = .ok (.getfield 13, 3) := by decide +kernel
theorem dX8_undo_39 : decode cX8_undo 39 = .ok (.sipush 842, 3) := by decide +kernel
theorem dX8_undo_42 : decode cX8_undo 42 = .ok (.aload_n 0, 1) := by decide +kernel
theorem dX8_undo_43 : decode cX8_undo 43 = .ok (.getfield 65, 3) := by decide +kernel
theorem dX8_undo_46 : decode cX8_undo 46 = .ok (.imul, 1) := by decide +kernel
theorem dX8_undo_47 : decode cX8_undo 47 = .ok (.iload_n 1, 1) := by decide +kernel
theorem dX8_undo_48 : decode cX8_undo 48 = .ok (.iadd, 1) := by decide +kernel
theorem dX8_undo_49 : decode cX8_undo 49 = .ok (.iaload, 1) := by decide +kernel
theorem dX8_undo_50 : decode cX8_undo 50 = .ok (.iastore, 1) := by decide +kernel
theorem dX8_undo_51 : decode cX8_undo 51 = .ok (.iinc 1 1, 3) := by decide +kernel
theorem dX8_undo_54 : decode cX8_undo 54 = .ok (.goto (-31), 3) := by decide +kernel
theorem dX8_undo_57 : decode cX8_undo 57 = .ok (.aload_n 0, 1) := by decide +kernel
theorem dX8_undo_58 : decode cX8_undo 58 = .ok (.getfield 65, 3) := by decide +kernel
theorem dX8_undo_61 : decode cX8_undo 61 = .ok (.ireturn, 1) := by decide +kernel
theorem dX8_takes_0 : decode cX8_takes 0 = .ok (.iconst 0, 1) := by decide +kernel
theorem dX8_takes_1 : decode cX8_takes 1 = .ok (.istore_n 2, 1) := by decide +kernel
theorem dX8_takes_2 : decode cX8_takes 2 = .ok (.iload_n 2, 1) := by decide +kernel
theorem dX8_takes_3 : decode cX8_takes 3 = .ok (.sipush 421, 3) := by decide +kernel
theorem dX8_takes_6 : decode cX8_takes 6 = .ok (.if_icmp .ge 27, 3) := by decide +kernel
theorem dX8_takes_9 : decode cX8_takes 9 = .ok (.aload_n 0, 1) := by decide +kernel
theorem dX8_takes_10 : decode cX8_takes 10 = .ok (.getfield 19, 3) := by decide +kernel
theorem dX8_takes_13 : decode cX8_takes 13 = .ok (.iload_n 2, 1) := by decide +kernel
theorem dX8_takes_14 : decode cX8_takes 14 = .ok (.aload_n 0, 1) := by decide +kernel
theorem dX8_takes_15 : decode cX8_takes 15 = .ok (.getfield 7, 3) := by decide +kernel
theorem dX8_takes_18 : decode cX8_takes 18 = .ok (.sipush 421, 3) := by decide +kernel
theorem dX8_takes_21 : decode cX8_takes 21 = .ok (.iload_n 1, 1) := by decide +kernel
theorem dX8_takes_22 : decode cX8_takes 22 = .ok (.imul, 1) := by decide +kernel
theorem dX8_takes_23 : decode cX8_takes 23 = .ok (.iload_n 2, 1) := by decide +kernel
theorem dX8_takes_24 : decode cX8_takes 24 = .ok (.iadd, 1) := by decide +kernel
theorem dX8_takes_25 : decode cX8_takes 25 = .ok (.iaload, 1) := by decide +kernel
theorem dX8_takes_26 : decode cX8_takes 26 = .ok (.iastore, 1) := by decide +kernel
theorem dX8_takes_27 : decode cX8_takes 27 = .ok (.iinc 2 1, 3) := by decide +kernel
theorem dX8_takes_30 : decode cX8_takes 30 = .ok (.goto (-28), 3) := by decide +kernel
theorem dX8_takes_33 : decode cX8_takes 33 = .ok (.return_, 1) := by decide +kernel
theorem dX8_lays_0 : decode cX8_lays 0 = .ok (.iconst 0, 1) := by decide +kernel
theorem dX8_lays_1 : decode cX8_lays 1 = .ok (.istore_n 2, 1) := by decide +kernel
theorem dX8_lays_2 : decode cX8_lays 2 = .ok (.iload_n 2, 1) := by decide +kernel
theorem dX8_lays_3 : decode cX8_lays 3 = .ok (.sipush 421, 3) := by decide +kernel
theorem dX8_lays_6 : decode cX8_lays 6 = .ok (.if_icmp .ge 27, 3) := by decide +kernel
theorem dX8_lays_9 : decode cX8_lays 9 = .ok (.aload_n 0, 1) := by decide +kernel
theorem dX8_lays_10 : decode cX8_lays 10 = .ok (.getfield 7, 3) := by decide +kernel
theorem dX8_lays_13 : decode cX8_lays 13 = .ok (.sipush 421, 3) := by decide +kernel
theorem dX8_lays_16 : decode cX8_lays 16 = .ok (.iload_n 1, 1) := by decide +kernel
theorem dX8_lays_17 : decode cX8_lays 17 = .ok (.imul, 1) := by decide +kernel
theorem dX8_lays_18 : decode cX8_lays 18 = .ok (.iload_n 2, 1) := by decide +kernel
theorem dX8_lays_19 : decode cX8_lays 19 = .ok (.iadd, 1) := by decide +kernel
theorem dX8_lays_20 : decode cX8_lays 20 = .ok (.aload_n 0, 1) := by decide +kernel
theorem dX8_lays_21 : decode cX8_lays 21 = .ok (.getfield 19, 3) := by decide +kernel
theorem dX8_lays_24 : decode cX8_lays 24 = .ok (.iload_n 2, 1) := by decide +kernel
theorem dX8_lays_25 : decode cX8_lays 25 = .ok (.iaload, 1) := by decide +kernel
theorem dX8_lays_26 : decode cX8_lays 26 = .ok (.iastore, 1) := by decide +kernel
theorem dX8_lays_27 : decode cX8_lays 27 = .ok (.iinc 2 1, 3) := by decide +kernel
theorem dX8_lays_30 : decode cX8_lays 30 = .ok (.goto (-28), 3) := by decide +kernel
theorem dX8_lays_33 : decode cX8_lays 33 = .ok (.return_, 1) := by decide +kernel
theorem dX8_of_0 : decode cX8_of 0 = .ok (.aload_n 0, 1) := by decide +kernel
theorem dX8_of_1 : decode cX8_of 1 = .ok (.getfield 19, 3) := by decide +kernel
theorem dX8_of_4 : decode cX8_of 4 = .ok (.iconst 1, 1) := by decide +kernel
theorem dX8_of_5 : decode cX8_of 5 = .ok (.bipush 7, 2) := by decide +kernel
theorem dX8_of_7 : decode cX8_of 7 = .ok (.iload_n 1, 1) := by decide +kernel
theorem dX8_of_8 : decode cX8_of 8 = .ok (.imul, 1) := by decide +kernel
theorem dX8_of_9 : decode cX8_of 9 = .ok (.iadd, 1) := by decide +kernel
theorem dX8_of_10 : decode cX8_of 10 = .ok (.iload_n 2, 1) := by decide +kernel
theorem dX8_of_11 : decode cX8_of 11 = .ok (.iadd, 1) := by decide +kernel
theorem dX8_of_12 : decode cX8_of 12 = .ok (.iaload, 1) := by decide +kernel
theorem dX8_of_13 : decode cX8_of 13 = .ok (.ireturn, 1) := by decide +kernel
theorem dX8_put_0 : decode cX8_put 0 = .ok (.aload_n 0, 1) := by decide +kernel
theorem dX8_put_1 : decode cX8_put 1 = .ok (.getfield 19, 3) := by decide +kernel
theorem dX8_put_4 : decode cX8_put 4 = .ok (.iconst 1, 1) := by decide +kernel
theorem dX8_put_5 : decode cX8_put 5 = .ok (.bipush 7, 2) := by decide +kernel
theorem dX8_put_7 : decode cX8_put 7 = .ok (.iload_n 1, 1) := by decide +kernel
theorem dX8_put_8 : decode cX8_put 8 = .ok (.imul, 1) := by decide +kernel
theorem dX8_put_9 : decode cX8_put 9 = .ok (.iadd, 1) := by decide +kernel
theorem dX8_put_10 : decode cX8_put 10 = .ok (.iload_n 2, 1) := by decide +kernel
theorem dX8_put_11 : decode cX8_put 11 = .ok (.iadd, 1) := by decide +kernel
theorem dX8_put_12 : decode cX8_put 12 = .ok (.iload_n 3, 1) := by decide +kernel
theorem dX8_put_13 : decode cX8_put 13 = .ok (.iastore, 1) := by decide +kernel
theorem dX8_put_14 : decode cX8_put 14 = .ok (.return_, 1) := by decide +kernel
theorem dX8_append_0 : decode cX8_append 0 = .ok (.iload_n 1, 1) := by decide +kernel
theorem dX8_append_1 : decode cX8_append 1 = .ok (.iconst 1, 1) := by decide +kernel
theorem dX8_append_2 : decode cX8_append 2 = .ok (.sipush 255, 3) := by decide +kernel
theorem dX8_append_5 : decode cX8_append 5 = .ok (.invokestatic 61, 3) := by decide +kernel
theorem dX8_append_8 : decode cX8_append 8 = .ok (.ifCond .ne 7, 3) := by decide +kernel
theorem dX8_append_11 : decode cX8_append 11 = .ok (.sipush (-10001), 3) := by decide +kernel
theorem dX8_append_14 : decode cX8_append 14 = .ok (.ireturn, 1) := by decide +kernel
theorem dX8_append_15 : decode cX8_append 15 = .ok (.aload_n 0, 1) := by decide +kernel
theorem dX8_append_16 : decode cX8_append 16 = .ok (.getfield 69, 3) := by decide +kernel
theorem dX8_append_19 : decode cX8_append 19 = .ok (.bipush 120, 2) := by decide +kernel
theorem dX8_append_21 : decode cX8_append 21 = .ok (.if_icmp .ne 7, 3) := by decide +kernel
theorem dX8_append_24 : decode cX8_append 24 = .ok (.sipush (-10003), 3) := by decide +kernel
theorem dX8_append_27 : decode cX8_append 27 = .ok (.ireturn, 1) := by decide +kernel
theorem dX8_append_28 : decode cX8_append 28 = .ok (.aload_n 0, 1) := by decide +kernel
theorem dX8_append_29 : decode cX8_append 29 = .ok (.getfield 16, 3) := by decide +kernel
theorem dX8_append_32 : decode cX8_append 32 = .ok (.aload_n 0, 1) := by decide +kernel
theorem dX8_append_33 : decode cX8_append 33 = .ok (.getfield 69, 3) := by decide +kernel
theorem dX8_append_36 : decode cX8_append 36 = .ok (.iload_n 1, 1) := by decide +kernel
theorem dX8_append_37 : decode cX8_append 37 = .ok (.iastore, 1) := by decide +kernel
theorem dX8_append_38 : decode cX8_append 38 = .ok (.aload_n 0, 1) := by decide +kernel
theorem dX8_append_39 : decode cX8_append 39 = .ok (.dup, 1) := by decide +kernel
theorem dX8_append_40 : decode cX8_append 40 = .ok (.getfield 69, 3) := by decide +kernel
theorem dX8_append_43 : decode cX8_append 43 = .ok (.iconst 1, 1) := by decide +kernel
theorem dX8_append_44 : decode cX8_append 44 = .ok (.iadd, 1) := by decide +kernel
theorem dX8_append_45 : decode cX8_append 45 = .ok (.putfield 69, 3) := by decide +kernel
theorem dX8_append_48 : decode cX8_append 48 = .ok (.aload_n 0, 1) := by decide +kernel
theorem dX8_append_49 : decode cX8_append 49 = .ok (.getfield 69, 3) := by decide +kernel
theorem dX8_append_52 : decode cX8_append 52 = .ok (.ireturn, 1) := by decide +kernel
theorem dX8_clearText_0 : decode cX8_clearText 0 = .ok (.aload_n 0, 1) := by decide +kernel
theorem dX8_clearText_1 : decode cX8_clearText 1 = .ok (.getfield 69, 3) := by decide +kernel
theorem dX8_clearText_4 : decode cX8_clearText 4 = .ok (.istore_n 1, 1) := by decide +kernel
theorem dX8_clearText_5 : decode cX8_clearText 5 = .ok (.aload_n 0, 1) := by decide +kernel
theorem dX8_clearText_6 : decode cX8_clearText 6 = .ok (.iconst 0, 1) := by decide +kernel
