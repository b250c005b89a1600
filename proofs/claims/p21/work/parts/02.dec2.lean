theorem dX4_isEven_1 : decode cX4_isEven 1 = .ok (.istore_n 2, 1) := by decide +kernel
theorem dX4_isEven_2 : decode cX4_isEven 2 = .ok (.iload_n 2, 1) := by decide +kernel
theorem dX4_isEven_3 : decode cX4_isEven 3 = .ok (.bipush 6, 2) := by decide +kernel
theorem dX4_isEven_5 : decode cX4_isEven 5 = .ok (.if_icmp .ge 32, 3) := by decide +kernel
theorem dX4_isEven_8 : decode cX4_isEven 8 = .ok (.aload_n 0, 1) := by decide +kernel
theorem dX4_isEven_9 : decode cX4_isEven 9 = .ok (.getfield 12, 3) := by decide +kernel
theorem dX4_isEven_12 : decode cX4_isEven 12 = .ok (.iload_n 1, 1) := by decide +kernel
theorem dX4_isEven_13 : decode cX4_isEven 13 = .ok (.iload_n 2, 1) := by decide +kernel
theorem dX4_isEven_14 : decode cX4_isEven 14 = .ok (.invokevirtual 55, 3) := by decide +kernel
theorem dX4_isEven_17 : decode cX4_isEven 17 = .ok (.aload_n 0, 1) := by decide +kernel
theorem dX4_isEven_18 : decode cX4_isEven 18 = .ok (.getfield 18, 3) := by decide +kernel
theorem dX4_isEven_21 : decode cX4_isEven 21 = .ok (.iload_n 1, 1) := by decide +kernel
theorem dX4_isEven_22 : decode cX4_isEven 22 = .ok (.iload_n 2, 1) := by decide +kernel
theorem dX4_isEven_23 : decode cX4_isEven 23 = .ok (.invokevirtual 55, 3) := by decide +kernel
theorem dX4_isEven_26 : decode cX4_isEven 26 = .ok (.if_icmp .eq 5, 3) := by decide +kernel
theorem dX4_isEven_29 : decode cX4_isEven 29 = .ok (.iconst 0, 1) := by decide +kernel
theorem dX4_isEven_30 : decode cX4_isEven 30 = .ok (.ireturn, 1) := by decide +kernel
theorem dX4_isEven_31 : decode cX4_isEven 31 = .ok (.iinc 2 1, 3) := by decide +kernel
theorem dX4_isEven_34 : decode cX4_isEven 34 = .ok (.goto (-32), 3) := by decide +kernel
theorem dX4_isEven_37 : decode cX4_isEven 37 = .ok (.iconst 1, 1) := by decide +kernel
theorem dX4_isEven_38 : decode cX4_isEven 38 = .ok (.ireturn, 1) := by decide +kernel
theorem dX4_cellsEqualTo_0 : decode cX4_cellsEqualTo 0 = .ok (.iconst 0, 1) := by decide +kernel
theorem dX4_cellsEqualTo_1 : decode cX4_cellsEqualTo 1 = .ok (.istore_n 2, 1) := by decide +kernel
theorem dX4_cellsEqualTo_2 : decode cX4_cellsEqualTo 2 = .ok (.iconst 0, 1) := by decide +kernel
theorem dX4_cellsEqualTo_3 : decode cX4_cellsEqualTo 3 = .ok (.istore_n 3, 1) := by decide +kernel
theorem dX4_cellsEqualTo_4 : decode cX4_cellsEqualTo 4 = .ok (.iload_n 3, 1) := by decide +kernel
theorem dX4_cellsEqualTo_5 : decode cX4_cellsEqualTo 5 = .ok (.bipush 6, 2) := by decide +kernel
theorem dX4_cellsEqualTo_7 : decode cX4_cellsEqualTo 7 = .ok (.if_icmp .ge 24, 3) := by decide +kernel
theorem dX4_cellsEqualTo_10 : decode cX4_cellsEqualTo 10 = .ok (.aload_n 0, 1) := by decide +kernel
theorem dX4_cellsEqualTo_11 : decode cX4_cellsEqualTo 11 = .ok (.iload_n 1, 1) := by decide +kernel
theorem dX4_cellsEqualTo_12 : decode cX4_cellsEqualTo 12 = .ok (.iload_n 3, 1) := by decide +kernel
theorem dX4_cellsEqualTo_13 : decode cX4_cellsEqualTo 13 = .ok (.invokevirtual 58, 3) := by decide +kernel
theorem dX4_cellsEqualTo_16 : decode cX4_cellsEqualTo 16 = .ok (.ifCond .eq 9, 3) := by decide +kernel
theorem dX4_cellsEqualTo_19 : decode cX4_cellsEqualTo 19 = .ok (.iload_n 2, 1) := by decide +kernel
theorem dX4_cellsEqualTo_20 : decode cX4_cellsEqualTo 20 = .ok (.iconst 1, 1) := by decide +kernel
theorem dX4_cellsEqualTo_21 : decode cX4_cellsEqualTo 21 = .ok (.iload_n 3, 1) := by decide +kernel
theorem dX4_cellsEqualTo_22 : decode cX4_cellsEqualTo 22 = .ok (.ishl, 1) := by decide +kernel
theorem dX4_cellsEqualTo_23 : decode cX4_cellsEqualTo 23 = .ok (.ior, 1) := by decide +kernel
theorem dX4_cellsEqualTo_24 : decode cX4_cellsEqualTo 24 = .ok (.istore_n 2, 1) := by decide +kernel
theorem dX4_cellsEqualTo_25 : decode cX4_cellsEqualTo 25 = .ok (.iinc 3 1, 3) := by decide +kernel
theorem dX4_cellsEqualTo_28 : decode cX4_cellsEqualTo 28 = .ok (.goto (-24), 3) := by decide +kernel
theorem dX4_cellsEqualTo_31 : decode cX4_cellsEqualTo 31 = .ok (.iload_n 2, 1) := by decide +kernel
theorem dX4_cellsEqualTo_32 : decode cX4_cellsEqualTo 32 = .ok (.ireturn, 1) := by decide +kernel
theorem dX4_isAlwaysSame_0 : decode cX4_isAlwaysSame 0 = .ok (.aload_n 0, 1) := by decide +kernel
theorem dX4_isAlwaysSame_1 : decode cX4_isAlwaysSame 1 = .ok (.invokevirtual 39, 3) := by decide +kernel
theorem dX4_isAlwaysSame_4 : decode cX4_isAlwaysSame 4 = .ok (.istore_n 3, 1) := by decide +kernel
theorem dX4_isAlwaysSame_5 : decode cX4_isAlwaysSame 5 = .ok (.iconst 0, 1) := by decide +kernel
theorem dX4_isAlwaysSame_6 : decode cX4_isAlwaysSame 6 = .ok (.istore 4, 2) := by decide +kernel
theorem dX4_isAlwaysSame_8 : decode cX4_isAlwaysSame 8 = .ok (.iload 4, 2) := by decide +kernel
theorem dX4_isAlwaysSame_10 : decode cX4_isAlwaysSame 10 = .ok (.iload_n 3, 1) := by decide +kernel
theorem dX4_isAlwaysSame_11 : decode cX4_isAlwaysSame 11 = .ok (.if_icmp .ge 34, 3) := by decide +kernel
theorem dX4_isAlwaysSame_14 : decode cX4_isAlwaysSame 14 = .ok (.aload_n 0, 1) := by decide +kernel
theorem dX4_isAlwaysSame_15 : decode cX4_isAlwaysSame 15 = .ok (.getfield 12, 3) := by decide +kernel
theorem dX4_isAlwaysSame_18 : decode cX4_isAlwaysSame 18 = .ok (.iload 4, 2) := by decide +kernel
theorem dX4_isAlwaysSame_20 : decode cX4_isAlwaysSame 20 = .ok (.iload_n 1, 1) := by decide +kernel
theorem dX4_isAlwaysSame_21 : decode cX4_isAlwaysSame 21 = .ok (.invokevirtual 55, 3) := by decide +kernel
theorem dX4_isAlwaysSame_24 : decode cX4_isAlwaysSame 24 = .ok (.aload_n 0, 1) := by decide +kernel
theorem dX4_isAlwaysSame_25 : decode cX4_isAlwaysSame 25 = .ok (.getfield 18, 3) := by decide +kernel
theorem dX4_isAlwaysSame_28 : decode cX4_isAlwaysSame 28 = .ok (.iload 4, 2) := by decide +kernel
theorem dX4_isAlwaysSame_30 : decode cX4_isAlwaysSame 30 = .ok (.iload_n 2, 1) := by decide +kernel
theorem dX4_isAlwaysSame_31 : decode cX4_isAlwaysSame 31 = .ok (.invokevirtual 55, 3) := by decide +kernel
theorem dX4_isAlwaysSame_34 : decode cX4_isAlwaysSame 34 = .ok (.if_icmp .eq 5, 3) := by decide +kernel
theorem dX4_isAlwaysSame_37 : decode cX4_isAlwaysSame 37 = .ok (.iconst 0, 1) := by decide +kernel
theorem dX4_isAlwaysSame_38 : decode cX4_isAlwaysSame 38 = .ok (.ireturn, 1) := by decide +kernel
theorem dX4_isAlwaysSame_39 : decode cX4_isAlwaysSame 39 = .ok (.iinc 4 1, 3) := by decide +kernel
theorem dX4_isAlwaysSame_42 : decode cX4_isAlwaysSame 42 = .ok (.goto (-34), 3) := by decide +kernel
theorem dX4_isAlwaysSame_45 : decode cX4_isAlwaysSame 45 = .ok (.iconst 1, 1) := by decide +kernel
theorem dX4_isAlwaysSame_46 : decode cX4_isAlwaysSame 46 = .ok (.ireturn, 1) := by decide +kernel
theorem dX4_inAgreement_0 : decode cX4_inAgreement 0 = .ok (.aload_n 0, 1) := by decide +kernel
theorem dX4_inAgreement_1 : decode cX4_inAgreement 1 = .ok (.getfield 12, 3) := by decide +kernel
theorem dX4_inAgreement_4 : decode cX4_inAgreement 4 = .ok (.getfield 62, 3) := by decide +kernel
theorem dX4_inAgreement_7 : decode cX4_inAgreement 7 = .ok (.getfield 66, 3) := by decide +kernel
theorem dX4_inAgreement_10 : decode cX4_inAgreement 10 = .ok (.ifCond .ne 40, 3) := by decide +kernel
theorem dX4_inAgreement_13 : decode cX4_inAgreement 13 = .ok (.aload_n 0, 1) := by decide +kernel
theorem dX4_inAgreement_14 : decode cX4_inAgreement 14 = .ok (.getfield 18, 3) := by decide +kernel
theorem dX4_inAgreement_17 : decode cX4_inAgreement 17 = .ok (.getfield 62, 3) := by decide +kernel
theorem dX4_inAgreement_20 : decode cX4_inAgreement 20 = .ok (.getfield 66, 3) := by decide +kernel
theorem dX4_inAgreement_23 : decode cX4_inAgreement 23 = .ok (.ifCond .ne 27, 3) := by decide +kernel
theorem dX4_inAgreement_26 : decode cX4_inAgreement 26 = .ok (.aload_n 0, 1) := by decide +kernel
theorem dX4_inAgreement_27 : decode cX4_inAgreement 27 = .ok (.getfield 12, 3) := by decide +kernel
theorem dX4_inAgreement_30 : decode cX4_inAgreement 30 = .ok (.getfield 62, 3) := by decide +kernel
theorem dX4_inAgreement_33 : decode cX4_inAgreement 33 = .ok (.aload_n 0, 1) := by decide +kernel
theorem dX4_inAgreement_34 : decode cX4_inAgreement 34 = .ok (.getfield 18, 3) := by decide +kernel
theorem dX4_inAgreement_37 : decode cX4_inAgreement 37 = .ok (.getfield 62, 3) := by decide +kernel
theorem dX4_inAgreement_40 : decode cX4_inAgreement 40 = .ok (.invokevirtual 72, 3) := by decide +kernel
theorem dX4_inAgreement_43 : decode cX4_inAgreement 43 = .ok (.ifCond .eq 7, 3) := by decide +kernel
theorem dX4_inAgreement_46 : decode cX4_inAgreement 46 = .ok (.iconst 1, 1) := by decide +kernel
theorem dX4_inAgreement_47 : decode cX4_inAgreement 47 = .ok (.goto 4, 3) := by decide +kernel
theorem dX4_inAgreement_50 : decode cX4_inAgreement 50 = .ok (.iconst 0, 1) := by decide +kernel
theorem dX4_inAgreement_51 : decode cX4_inAgreement 51 = .ok (.ireturn, 1) := by decide +kernel
theorem dX5_init_0 : decode cX5_init 0 = .ok (.aload_n 0, 1) := by decide +kernel
theorem dX5_init_1 : decode cX5_init 1 = .ok (.invokespecial 3, 3) := by decide +kernel
theorem dX5_init_4 : decode cX5_init 4 = .ok (.aload_n 0, 1) := by decide +kernel
theorem dX5_init_5 : decode cX5_init 5 = .ok (.bipush 120, 2) := by decide +kernel
theorem dX5_init_7 : decode cX5_init 7 = .ok (.newarray .char, 2) := by decide +kernel
theorem dX5_init_9 : decode cX5_init 9 = .ok (.putfield 9, 3) := by decide +kernel
theorem dX5_init_12 : decode cX5_init 12 = .ok (.return_, 1) := by decide +kernel
theorem dX5_isFull_0 : decode cX5_isFull 0 = .ok (.aload_n 0, 1) := by decide +kernel
theorem dX5_isFull_1 : decode cX5_isFull 1 = .ok (.getfield 15, 3) := by decide +kernel
theorem dX5_isFull_4 : decode cX5_isFull 4 = .ok (.bipush 120, 2) := by decide +kernel
theorem dX5_isFull_6 : decode cX5_isFull 6 = .ok (.if_icmp .lt 7, 3) := by decide +kernel
theorem dX5_isFull_9 : decode cX5_isFull 9 = .ok (.iconst 1, 1) := by decide +kernel
theorem dX5_isFull_10 : decode cX5_isFull 10 = .ok (.goto 4, 3) := by decide +kernel
theorem dX5_isFull_13 : decode cX5_isFull 13 = .ok (.iconst 0, 1) := by decide +kernel
theorem dX5_isFull_14 : decode cX5_isFull 14 = .ok (.ireturn, 1) := by decide +kernel
theorem dX5_add_0 : decode cX5_add 0 = .ok (.aload_n 0, 1) := by decide +kernel
theorem dX5_add_1 : decode cX5_add 1 = .ok (.getfield 15, 3) := by decide +kernel
theorem dX5_add_4 : decode cX5_add 4 = .ok (.iconst 0, 1) := by decide +kernel
theorem dX5_add_5 : decode cX5_add 5 = .ok (.bipush 119, 2) := by decide +kernel
theorem dX5_add_7 : decode cX5_add 7 = .ok (.invokestatic 19, 3) := by decide +kernel
theorem dX5_add_10 : decode cX5_add 10 = .ok (.ifCond .eq 23, 3) := by decide +kernel
theorem dX5_add_13 : decode cX5_add 13 = .ok (.aload_n 0, 1) := by decide +kernel
theorem dX5_add_14 : decode cX5_add 14 = .ok (.getfield 9, 3) := by decide +kernel
theorem dX5_add_17 : decode cX5_add 17 = .ok (.aload_n 0, 1) := by decide +kernel
theorem dX5_add_18 : decode cX5_add 18 = .ok (.getfield 15, 3) := by decide +kernel
theorem dX5_add_21 : decode cX5_add 21 = .ok (.iload_n 1, 1) := by decide +kernel
theorem dX5_add_22 : decode cX5_add 22 = .ok (.castore, 1) := by decide +kernel
theorem dX5_add_23 : decode cX5_add 23 = .ok (.aload_n 0, 1) := by decide +kernel
theorem dX5_add_24 : decode cX5_add 24 = .ok (.dup, 1) := by decide +kernel
theorem dX5_add_25 : decode cX5_add 25 = .ok (.getfield 15, 3) := by decide +kernel
theorem dX5_add_28 : decode cX5_add 28 = .ok (.iconst 1, 1) := by decide +kernel
theorem dX5_add_29 : decode cX5_add 29 = .ok (.iadd, 1) := by decide +kernel
theorem dX5_add_30 : decode cX5_add 30 = .ok (.putfield 15, 3) := by decide +kernel
theorem dX5_add_33 : decode cX5_add 33 = .ok (.return_, 1) := by decide +kernel
theorem dX5_signAt_0 : decode cX5_signAt 0 = .ok (.iload_n 1, 1) := by decide +kernel
theorem dX5_signAt_1 : decode cX5_signAt 1 = .ok (.iconst 0, 1) := by decide +kernel
theorem dX5_signAt_2 : decode cX5_signAt 2 = .ok (.aload_n 0, 1) := by decide +kernel
theorem dX5_signAt_3 : decode cX5_signAt 3 = .ok (.getfield 15, 3) := by decide +kernel
theorem dX5_signAt_6 : decode cX5_signAt 6 = .ok (.bipush 120, 2) := by decide +kernel
theorem dX5_signAt_8 : decode cX5_signAt 8 = .ok (.invokestatic 23, 3) := by decide +kernel
theorem dX5_signAt_11 : decode cX5_signAt 11 = .ok (.iconst 1, 1) := by decide +kernel
theorem dX5_signAt_12 : decode cX5_signAt 12 = .ok (.isub, 1) := by decide +kernel
theorem dX5_signAt_13 : decode cX5_signAt 13 = .ok (.invokestatic 19, 3) := by decide +kernel
theorem dX5_signAt_16 : decode cX5_signAt 16 = .ok (.ifCond .eq 12, 3) := by decide +kernel
theorem dX5_signAt_19 : decode cX5_signAt 19 = .ok (.aload_n 0, 1) := by decide +kernel
theorem dX5_signAt_20 : decode cX5_signAt 20 = .ok (.getfield 9, 3) := by decide +kernel
theorem dX5_signAt_23 : decode cX5_signAt 23 = .ok (.iload_n 1, 1) := by decide +kernel
theorem dX5_signAt_24 : decode cX5_signAt 24 = .ok (.caload, 1) := by decide +kernel
theorem dX5_signAt_25 : decode cX5_signAt 25 = .ok (.goto 4, 3) := by decide +kernel
theorem dX5_signAt_28 : decode cX5_signAt 28 = .ok (.iconst 0, 1) := by decide +kernel
theorem dX5_signAt_29 : decode cX5_signAt 29 = .ok (.ireturn, 1) := by decide +kernel
theorem dX6_init_0 : decode cX6_init 0 = .ok (.aload_n 0, 1) := by decide +kernel
theorem dX6_init_1 : decode cX6_init 1 = .ok (.invokespecial 3, 3) := by decide +kernel
theorem dX6_init_4 : decode cX6_init 4 = .ok (.aload_n 0, 1) := by decide +kernel
theorem dX6_init_5 : decode cX6_init 5 = .ok (.new 9, 3) := by decide +kernel
theorem dX6_init_8 : decode cX6_init 8 = .ok (.dup, 1) := by decide +kernel
theorem dX6_init_9 : decode cX6_init 9 = .ok (.invokespecial 11, 3) := by decide +kernel
theorem dX6_init_12 : decode cX6_init 12 = .ok (.putfield 12, 3) := by decide +kernel
theorem dX6_init_15 : decode cX6_init 15 = .ok (.aload_n 0, 1) := by decide +kernel
theorem dX6_init_16 : decode cX6_init 16 = .ok (.bipush 6, 2) := by decide +kernel
theorem dX6_init_18 : decode cX6_init 18 = .ok (.newarray .int, 2) := by decide +kernel
theorem dX6_init_20 : decode cX6_init 20 = .ok (.putfield 18, 3) := by decide +kernel
theorem dX6_init_23 : decode cX6_init 23 = .ok (.aload_n 0, 1) := by decide +kernel
theorem dX6_init_24 : decode cX6_init 24 = .ok (.sipush 240, 3) := by decide +kernel
theorem dX6_init_27 : decode cX6_init 27 = .ok (.newarray .int, 2) := by decide +kernel
theorem dX6_init_29 : decode cX6_init 29 = .ok (.putfield 22, 3) := by decide +kernel
theorem dX6_init_32 : decode cX6_init 32 = .ok (.aload_n 0, 1) := by decide +kernel
theorem dX6_init_33 : decode cX6_init 33 = .ok (.bipush 40, 2) := by decide +kernel
theorem dX6_init_35 : decode cX6_init 35 = .ok (.newarray .int, 2) := by decide +kernel
theorem dX6_init_37 : decode cX6_init 37 = .ok (.putfield 25, 3) := by decide +kernel
theorem dX6_init_40 : decode cX6_init 40 = .ok (.aload_n 0, 1) := by decide +kernel
theorem dX6_init_41 : decode cX6_init 41 = .ok (.bipush 60, 2) := by decide +kernel
theorem dX6_init_43 : decode cX6_init 43 = .ok (.newarray .int, 2) := by decide +kernel
theorem dX6_init_45 : decode cX6_init 45 = .ok (.putfield 28, 3) := by decide +kernel
theorem dX6_init_48 : decode cX6_init 48 = .ok (.return_, 1) := by decide +kernel
theorem dX6_follow_0 : decode cX6_follow 0 = .ok (.aload_n 0, 1) := by decide +kernel
theorem dX6_follow_1 : decode cX6_follow 1 = .ok (.iload_n 2, 1) := by decide +kernel
theorem dX6_follow_2 : decode cX6_follow 2 = .ok (.iload_n 3, 1) := by decide +kernel
theorem dX6_follow_3 : decode cX6_follow 3 = .ok (.invokevirtual 31, 3) := by decide +kernel
theorem dX6_follow_6 : decode cX6_follow 6 = .ok (.iconst 0, 1) := by decide +kernel
theorem dX6_follow_7 : decode cX6_follow 7 = .ok (.istore 4, 2) := by decide +kernel
theorem dX6_follow_9 : decode cX6_follow 9 = .ok (.iconst 0, 1) := by decide +kernel
theorem dX6_follow_10 : decode cX6_follow 10 = .ok (.istore 5, 2) := by decide +kernel
theorem dX6_follow_12 : decode cX6_follow 12 = .ok (.iload 5, 2) := by decide +kernel
theorem dX6_follow_14 : decode cX6_follow 14 = .ok (.sipush 400, 3) := by decide +kernel
theorem dX6_follow_17 : decode cX6_follow 17 = .ok (.if_icmp .ge 37, 3) := by decide +kernel
theorem dX6_follow_20 : decode cX6_follow 20 = .ok (.aload_n 1, 1) := by decide +kernel
theorem dX6_follow_21 : decode cX6_follow 21 = .ok (.iload 4, 2) := by decide +kernel
theorem dX6_follow_23 : decode cX6_follow 23 = .ok (.invokevirtual 35, 3) := by decide +kernel
theorem dX6_follow_26 : decode cX6_follow 26 = .ok (.ifCond .eq 28, 3) := by decide +kernel
theorem dX6_follow_29 : decode cX6_follow 29 = .ok (.aload_n 0, 1) := by decide +kernel
theorem dX6_follow_30 : decode cX6_follow 30 = .ok (.aload_n 1, 1) := by decide +kernel
theorem dX6_follow_31 : decode cX6_follow 31 = .ok (.iload 4, 2) := by decide +kernel
theorem dX6_follow_33 : decode cX6_follow 33 = .ok (.invokevirtual 41, 3) := by decide +kernel
theorem dX6_follow_36 : decode cX6_follow 36 = .ok (.istore 4, 2) := by decide +kernel
theorem dX6_follow_38 : decode cX6_follow 38 = .ok (.aload_n 0, 1) := by decide +kernel
theorem dX6_follow_39 : decode cX6_follow 39 = .ok (.dup, 1) := by decide +kernel
theorem dX6_follow_40 : decode cX6_follow 40 = .ok (.getfield 45, 3) := by decide +kernel
theorem dX6_follow_43 : decode cX6_follow 43 = .ok (.iconst 1, 1) := by decide +kernel
theorem dX6_follow_44 : decode cX6_follow 44 = .ok (.iadd, 1) := by decide +kernel
theorem dX6_follow_45 : decode cX6_follow 45 = .ok (.putfield 45, 3) := by decide +kernel
theorem dX6_follow_48 : decode cX6_follow 48 = .ok (.iinc 5 1, 3) := by decide +kernel
theorem dX6_follow_51 : decode cX6_follow 51 = .ok (.goto (-39), 3) := by decide +kernel
theorem dX6_follow_54 : decode cX6_follow 54 = .ok (.aload_n 0, 1) := by decide +kernel
theorem dX6_follow_55 : decode cX6_follow 55 = .ok (.getfield 12, 3) := by decide +kernel
theorem dX6_follow_58 : decode cX6_follow 58 = .ok (.aload_n 1, 1) := by decide +kernel
theorem dX6_follow_59 : decode cX6_follow 59 = .ok (.iload 4, 2) := by decide +kernel
theorem dX6_follow_61 : decode cX6_follow 61 = .ok (.invokevirtual 35, 3) := by decide +kernel
theorem dX6_follow_64 : decode cX6_follow 64 = .ok (.putfield 49, 3) := by decide +kernel
theorem dX6_follow_67 : decode cX6_follow 67 = .ok (.return_, 1) := by decide +kernel
theorem dX6_begin_0 : decode cX6_begin 0 = .ok (.iconst 0, 1) := by decide +kernel
theorem dX6_begin_1 : decode cX6_begin 1 = .ok (.istore_n 3, 1) := by decide +kernel
theorem dX6_begin_2 : decode cX6_begin 2 = .ok (.iload_n 3, 1) := by decide +kernel
theorem dX6_begin_3 : decode cX6_begin 3 = .ok (.bipush 6, 2) := by decide +kernel
theorem dX6_begin_5 : decode cX6_begin 5 = .ok (.if_icmp .ge 16, 3) := by decide +kernel
theorem dX6_begin_8 : decode cX6_begin 8 = .ok (.aload_n 0, 1) := by decide +kernel
theorem dX6_begin_9 : decode cX6_begin 9 = .ok (.getfield 18, 3) := by decide +kernel
theorem dX6_begin_12 : decode cX6_begin 12 = .ok (.iload_n 3, 1) := by decide +kernel
theorem dX6_begin_13 : decode cX6_begin 13 = .ok (.iconst 0, 1) := by decide +kernel
theorem dX6_begin_14 : decode cX6_begin 14 = .ok (.iastore, 1) := by decide +kernel
theorem dX6_begin_15 : decode cX6_begin 15 = .ok (.iinc 3 1, 3) := by decide +kernel
theorem dX6_begin_18 : decode cX6_begin 18 = .ok (.goto (-16), 3) := by decide +kernel
theorem dX6_begin_21 : decode cX6_begin 21 = .ok (.aload_n 0, 1) := by decide +kernel
theorem dX6_begin_22 : decode cX6_begin 22 = .ok (.getfield 18, 3) := by decide +kernel
theorem dX6_begin_25 : decode cX6_begin 25 = .ok (.iconst 0, 1) := by decide +kernel
theorem dX6_begin_26 : decode cX6_begin 26 = .ok (.iload_n 1, 1) := by decide +kernel
theorem dX6_begin_27 : decode cX6_begin 27 = .ok (.iastore, 1) := by decide +kernel
theorem dX6_begin_28 : decode cX6_begin 28 = .ok (.aload_n 0, 1) := by decide +kernel
theorem dX6_begin_29 : decode cX6_begin 29 = .ok (.getfield 18, 3) := by decide +kernel
theorem dX6_begin_32 : decode cX6_begin 32 = .ok (.iconst 1, 1) := by decide +kernel
theorem dX6_begin_33 : decode cX6_begin 33 = .ok (.iload_n 2, 1) := by decide +kernel
theorem dX6_begin_34 : decode cX6_begin 34 = .ok (.iastore, 1) := by decide +kernel
theorem dX6_begin_35 : decode cX6_begin 35 = .ok (.iconst 0, 1) := by decide +kernel
theorem dX6_begin_36 : decode cX6_begin 36 = .ok (.istore_n 3, 1) := by decide +kernel
theorem dX6_begin_37 : decode cX6_begin 37 = .ok (.iload_n 3, 1) := by decide +kernel
theorem dX6_begin_38 : decode cX6_begin 38 = .ok (.bipush 60, 2) := by decide +kernel
theorem dX6_begin_40 : decode cX6_begin 40 = .ok (.if_icmp .ge 16, 3) := by decide +kernel
theorem dX6_begin_43 : decode cX6_begin 43 = .ok (.aload_n 0, 1) := by decide +kernel
theorem dX6_begin_44 : decode cX6_begin 44 = .ok (.getfield 28, 3) := by decide +kernel
theorem dX6_begin_47 : decode cX6_begin 47 = .ok (.iload_n 3, 1) := by decide +kernel
theorem dX6_begin_48 : decode cX6_begin 48 = .ok (.iconst 0, 1) := by decide +kernel
theorem dX6_begin_49 : decode cX6_begin 49 = .ok (.iastore, 1) := by decide +kernel
theorem dX6_begin_50 : decode cX6_begin 50 = .ok (.iinc 3 1, 3) := by decide +kernel
theorem dX6_begin_53 : decode cX6_begin 53 = .ok (.goto (-16), 3) := by decide +kernel
theorem dX6_begin_56 : decode cX6_begin 56 = .ok (.aload_n 0, 1) := by decide +kernel
theorem dX6_begin_57 : decode cX6_begin 57 = .ok (.getfield 12, 3) := by decide +kernel
theorem dX6_begin_60 : decode cX6_begin 60 = .ok (.invokevirtual 53, 3) := by decide +kernel
theorem dX6_begin_63 : decode cX6_begin 63 = .ok (.aload_n 0, 1) := by decide +kernel
theorem dX6_begin_64 : decode cX6_begin 64 = .ok (.iconst 0, 1) := by decide +kernel
theorem dX6_begin_65 : decode cX6_begin 65 = .ok (.putfield 45, 3) := by decide +kernel
theorem dX6_begin_68 : decode cX6_begin 68 = .ok (.aload_n 0, 1) := by decide +kernel
theorem dX6_begin_69 : decode cX6_begin 69 = .ok (.iconst 0, 1) := by decide +kernel
theorem dX6_begin_70 : decode cX6_begin 70 = .ok (.putfield 55, 3) := by decide +kernel
theorem dX6_begin_73 : decode cX6_begin 73 = .ok (.aload_n 0, 1) := by decide +kernel
theorem dX6_begin_74 : decode cX6_begin 74 = .ok (.iconst 0, 1) := by decide +kernel
theorem dX6_begin_75 : decode cX6_begin 75 = .ok (.putfield 58, 3) := by decide +kernel
theorem dX6_begin_78 : decode cX6_begin 78 = .ok (.aload_n 0, 1) := by decide +kernel
theorem dX6_begin_79 : decode cX6_begin 79 = .ok (.iconst 0, 1) := by decide +kernel
theorem dX6_begin_80 : decode cX6_begin 80 = .ok (.putfield 61, 3) := by decide +kernel
theorem dX6_begin_83 : decode cX6_begin 83 = .ok (.return_, 1) := by decide +kernel
theorem dX6_stepFrom_0 : decode cX6_stepFrom 0 = .ok (.aload_n 1, 1) := by decide +kernel
theorem dX6_stepFrom_1 : decode cX6_stepFrom 1 = .ok (.iload_n 2, 1) := by decide +kernel
theorem dX6_stepFrom_2 : decode cX6_stepFrom 2 = .ok (.invokevirtual 64, 3) := by decide +kernel
theorem dX6_stepFrom_5 : decode cX6_stepFrom 5 = .ok (.istore_n 3, 1) := by decide +kernel
theorem dX6_stepFrom_6 : decode cX6_stepFrom 6 = .ok (.aload_n 0, 1) := by decide +kernel
theorem dX6_stepFrom_7 : decode cX6_stepFrom 7 = .ok (.iload_n 3, 1) := by decide +kernel
theorem dX6_stepFrom_8 : decode cX6_stepFrom 8 = .ok (.invokevirtual 68, 3) := by decide +kernel
theorem dX6_stepFrom_11 : decode cX6_stepFrom 11 = .ok (.ifCond .le 7, 3) := by decide +kernel
theorem dX6_stepFrom_14 : decode cX6_stepFrom 14 = .ok (.iconst 1, 1) := by decide +kernel
theorem dX6_stepFrom_15 : decode cX6_stepFrom 15 = .ok (.goto 4, 3) := by decide +kernel
theorem dX6_stepFrom_18 : decode cX6_stepFrom 18 = .ok (.iconst 0, 1) := by decide +kernel
theorem dX6_stepFrom_19 : decode cX6_stepFrom 19 = .ok (.istore 4, 2) := by decide +kernel
theorem dX6_stepFrom_21 : decode cX6_stepFrom 21 = .ok (.aload_n 1, 1) := by decide +kernel
theorem dX6_stepFrom_22 : decode cX6_stepFrom 22 = .ok (.iload_n 2, 1) := by decide +kernel
theorem dX6_stepFrom_23 : decode cX6_stepFrom 23 = .ok (.invokevirtual 71, 3) := by decide +kernel
theorem dX6_stepFrom_26 : decode cX6_stepFrom 26 = .ok (.tableswitch 85 1 4 #[30, 47, 65, 75], 30) := by decide +kernel
theorem dX6_stepFrom_56 : decode cX6_stepFrom 56 = .ok (.aload_n 0, 1) := by decide +kernel
theorem dX6_stepFrom_57 : decode cX6_stepFrom 57 = .ok (.iload_n 3, 1) := by decide +kernel
theorem dX6_stepFrom_58 : decode cX6_stepFrom 58 = .ok (.aload_n 0, 1) := by decide +kernel
theorem dX6_stepFrom_59 : decode cX6_stepFrom 59 = .ok (.aload_n 1, 1) := by decide +kernel
theorem dX6_stepFrom_60 : decode cX6_stepFrom 60 = .ok (.iload_n 2, 1) := by decide +kernel
theorem dX6_stepFrom_61 : decode cX6_stepFrom 61 = .ok (.invokevirtual 74, 3) := by decide +kernel
theorem dX6_stepFrom_64 : decode cX6_stepFrom 64 = .ok (.invokevirtual 77, 3) := by decide +kernel
theorem dX6_stepFrom_67 : decode cX6_stepFrom 67 = .ok (.aload_n 1, 1) := by decide +kernel
theorem dX6_stepFrom_68 : decode cX6_stepFrom 68 = .ok (.iload_n 2, 1) := by decide +kernel
theorem dX6_stepFrom_69 : decode cX6_stepFrom 69 = .ok (.invokevirtual 80, 3) := by decide +kernel
theorem dX6_stepFrom_72 : decode cX6_stepFrom 72 = .ok (.ireturn, 1) := by decide +kernel
theorem dX6_stepFrom_73 : decode cX6_stepFrom 73 = .ok (.aload_n 0, 1) := by decide +kernel
theorem dX6_stepFrom_74 : decode cX6_stepFrom 74 = .ok (.getfield 12, 3) := by decide +kernel
theorem dX6_stepFrom_77 : decode cX6_stepFrom 77 = .ok (.aload_n 0, 1) := by decide +kernel
theorem dX6_stepFrom_78 : decode cX6_stepFrom 78 = .ok (.iload_n 3, 1) := by decide +kernel
theorem dX6_stepFrom_79 : decode cX6_stepFrom 79 = .ok (.invokevirtual 68, 3) := by decide +kernel
theorem dX6_stepFrom_82 : decode cX6_stepFrom 82 = .ok (.invokevirtual 83, 3) := by decide +kernel
theorem dX6_stepFrom_85 : decode cX6_stepFrom 85 = .ok (.aload_n 1, 1) := by decide +kernel
theorem dX6_stepFrom_86 : decode cX6_stepFrom 86 = .ok (.iload_n 2, 1) := by decide +kernel
theorem dX6_stepFrom_87 : decode cX6_stepFrom 87 = .ok (.invokevirtual 80, 3) := by decide +kernel
theorem dX6_stepFrom_90 : decode cX6_stepFrom 90 = .ok (.ireturn, 1) := by decide +kernel
theorem dX6_stepFrom_91 : decode cX6_stepFrom 91 = .ok (.aload_n 0, 1) := by decide +kernel
theorem dX6_stepFrom_92 : decode cX6_stepFrom 92 = .ok (.invokevirtual 87, 3) := by decide +kernel
theorem dX6_stepFrom_95 : decode cX6_stepFrom 95 = .ok (.aload_n 1, 1) := by decide +kernel
theorem dX6_stepFrom_96 : decode cX6_stepFrom 96 = .ok (.iload_n 2, 1) := by decide +kernel
theorem dX6_stepFrom_97 : decode cX6_stepFrom 97 = .ok (.invokevirtual 80, 3) := by decide +kernel
theorem dX6_stepFrom_100 : decode cX6_stepFrom 100 = .ok (.ireturn, 1) := by decide +kernel
theorem dX6_stepFrom_101 : decode cX6_stepFrom 101 = .ok (.aload_n 0, 1) := by decide +kernel
theorem dX6_stepFrom_102 : decode cX6_stepFrom 102 = .ok (.iload_n 2, 1) := by decide +kernel
theorem dX6_stepFrom_103 : decode cX6_stepFrom 103 = .ok (.iload 4, 2) := by decide +kernel
theorem dX6_stepFrom_105 : decode cX6_stepFrom 105 = .ok (.invokevirtual 90, 3) := by decide +kernel
theorem dX6_stepFrom_108 : decode cX6_stepFrom 108 = .ok (.goto 3, 3) := by decide +kernel
theorem dX6_stepFrom_111 : decode cX6_stepFrom 111 = .ok (.iload 4, 2) := by decide +kernel
theorem dX6_stepFrom_113 : decode cX6_stepFrom 113 = .ok (.ifCond .eq 11, 3) := by decide +kernel
theorem dX6_stepFrom_116 : decode cX6_stepFrom 116 = .ok (.aload_n 1, 1) := by decide +kernel
theorem dX6_stepFrom_117 : decode cX6_stepFrom 117 = .ok (.iload_n 2, 1) := by decide +kernel
theorem dX6_stepFrom_118 : decode cX6_stepFrom 118 = .ok (.invokevirtual 94, 3) := by decide +kernel
theorem dX6_stepFrom_121 : decode cX6_stepFrom 121 = .ok (.goto 8, 3) := by decide +kernel
theorem dX6_stepFrom_124 : decode cX6_stepFrom 124 = .ok (.aload_n 1, 1) := by decide +kernel
theorem dX6_stepFrom_125 : decode cX6_stepFrom 125 = .ok (.iload_n 2, 1) := by decide +kernel
theorem dX6_stepFrom_126 : decode cX6_stepFrom 126 = .ok (.invokevirtual 97, 3) := by decide +kernel
theorem dX6_stepFrom_129 : decode cX6_stepFrom 129 = .ok (.ireturn, 1) := by decide +kernel
theorem dX6_countLook_0 : decode cX6_countLook 0 = .ok (.iload_n 1, 1) := by decide +kernel
theorem dX6_countLook_1 : decode cX6_countLook 1 = .ok (.iconst 0, 1) := by decide +kernel
theorem dX6_countLook_2 : decode cX6_countLook 2 = .ok (.bipush 59, 2) := by decide +kernel
theorem dX6_countLook_4 : decode cX6_countLook 4 = .ok (.invokestatic 100, 3) := by decide +kernel
theorem dX6_countLook_7 : decode cX6_countLook 7 = .ok (.ifCond .eq 42, 3) := by decide +kernel
theorem dX6_countLook_10 : decode cX6_countLook 10 = .ok (.aload_n 0, 1) := by decide +kernel
theorem dX6_countLook_11 : decode cX6_countLook 11 = .ok (.getfield 28, 3) := by decide +kernel
theorem dX6_countLook_14 : decode cX6_countLook 14 = .ok (.iload_n 1, 1) := by decide +kernel
theorem dX6_countLook_15 : decode cX6_countLook 15 = .ok (.iload_n 2, 1) := by decide +kernel
theorem dX6_countLook_16 : decode cX6_countLook 16 = .ok (.ifCond .eq 14, 3) := by decide +kernel
theorem dX6_countLook_19 : decode cX6_countLook 19 = .ok (.aload_n 0, 1) := by decide +kernel
theorem dX6_countLook_20 : decode cX6_countLook 20 = .ok (.getfield 28, 3) := by decide +kernel
theorem dX6_countLook_23 : decode cX6_countLook 23 = .ok (.iload_n 1, 1) := by decide +kernel
theorem dX6_countLook_24 : decode cX6_countLook 24 = .ok (.iaload, 1) := by decide +kernel
theorem dX6_countLook_25 : decode cX6_countLook 25 = .ok (.iconst 1, 1) := by decide +kernel
theorem dX6_countLook_26 : decode cX6_countLook 26 = .ok (.iadd, 1) := by decide +kernel
theorem dX6_countLook_27 : decode cX6_countLook 27 = .ok (.goto 4, 3) := by decide +kernel
theorem dX6_countLook_30 : decode cX6_countLook 30 = .ok (.iconst 0, 1) := by decide +kernel
theorem dX6_countLook_31 : decode cX6_countLook 31 = .ok (.iastore, 1) := by decide +kernel
theorem dX6_countLook_32 : decode cX6_countLook 32 = .ok (.aload_n 0, 1) := by decide +kernel
theorem dX6_countLook_33 : decode cX6_countLook 33 = .ok (.aload_n 0, 1) := by decide +kernel
theorem dX6_countLook_34 : decode cX6_countLook 34 = .ok (.getfield 61, 3) := by decide +kernel
theorem dX6_countLook_37 : decode cX6_countLook 37 = .ok (.aload_n 0, 1) := by decide +kernel
theorem dX6_countLook_38 : decode cX6_countLook 38 = .ok (.getfield 28, 3) := by decide +kernel
theorem dX6_countLook_41 : decode cX6_countLook 41 = .ok (.iload_n 1, 1) := by decide +kernel
theorem dX6_countLook_42 : decode cX6_countLook 42 = .ok (.iaload, 1) := by decide +kernel
theorem dX6_countLook_43 : decode cX6_countLook 43 = .ok (.invokestatic 104, 3) := by decide +kernel
theorem dX6_countLook_46 : decode cX6_countLook 46 = .ok (.putfield 61, 3) := by decide +kernel
theorem dX6_countLook_49 : decode cX6_countLook 49 = .ok (.iload_n 2, 1) := by decide +kernel
theorem dX6_countLook_50 : decode cX6_countLook 50 = .ok (.ifCond .eq 13, 3) := by decide +kernel
theorem dX6_countLook_53 : decode cX6_countLook 53 = .ok (.aload_n 0, 1) := by decide +kernel
theorem dX6_countLook_54 : decode cX6_countLook 54 = .ok (.dup, 1) := by decide +kernel
theorem dX6_countLook_55 : decode cX6_countLook 55 = .ok (.getfield 58, 3) := by decide +kernel
theorem dX6_countLook_58 : decode cX6_countLook 58 = .ok (.iconst 1, 1) := by decide +kernel
theorem dX6_countLook_59 : decode cX6_countLook 59 = .ok (.iadd, 1) := by decide +kernel
theorem dX6_countLook_60 : decode cX6_countLook 60 = .ok (.putfield 58, 3) := by decide +kernel
theorem dX6_countLook_63 : decode cX6_countLook 63 = .ok (.return_, 1) := by decide +kernel
theorem dX6_resultOf_0 : decode cX6_resultOf 0 = .ok (.aload_n 0, 1) := by decide +kernel
theorem dX6_resultOf_1 : decode cX6_resultOf 1 = .ok (.aload_n 1, 1) := by decide +kernel
theorem dX6_resultOf_2 : decode cX6_resultOf 2 = .ok (.iload_n 2, 1) := by decide +kernel
theorem dX6_resultOf_3 : decode cX6_resultOf 3 = .ok (.invokevirtual 110, 3) := by decide +kernel
theorem dX6_resultOf_6 : decode cX6_resultOf 6 = .ok (.invokevirtual 113, 3) := by decide +kernel
theorem dX6_resultOf_9 : decode cX6_resultOf 9 = .ok (.istore_n 3, 1) := by decide +kernel
theorem dX6_resultOf_10 : decode cX6_resultOf 10 = .ok (.aload_n 0, 1) := by decide +kernel
theorem dX6_resultOf_11 : decode cX6_resultOf 11 = .ok (.aload_n 1, 1) := by decide +kernel
theorem dX6_resultOf_12 : decode cX6_resultOf 12 = .ok (.iload_n 2, 1) := by decide +kernel
theorem dX6_resultOf_13 : decode cX6_resultOf 13 = .ok (.invokevirtual 116, 3) := by decide +kernel
theorem dX6_resultOf_16 : decode cX6_resultOf 16 = .ok (.invokevirtual 113, 3) := by decide +kernel
theorem dX6_resultOf_19 : decode cX6_resultOf 19 = .ok (.istore 4, 2) := by decide +kernel
theorem dX6_resultOf_21 : decode cX6_resultOf 21 = .ok (.aload_n 1, 1) := by decide +kernel
theorem dX6_resultOf_22 : decode cX6_resultOf 22 = .ok (.iload_n 2, 1) := by decide +kernel
theorem dX6_resultOf_23 : decode cX6_resultOf 23 = .ok (.invokevirtual 119, 3) := by decide +kernel
theorem dX6_resultOf_26 : decode cX6_resultOf 26 = .ok (.tableswitch 54 42 45 #[46, 30, 54, 38], 30) := by decide +kernel
theorem dX6_resultOf_56 : decode cX6_resultOf 56 = .ok (.iload_n 3, 1) := by decide +kernel
theorem dX6_resultOf_57 : decode cX6_resultOf 57 = .ok (.iload 4, 2) := by decide +kernel
theorem dX6_resultOf_59 : decode cX6_resultOf 59 = .ok (.iadd, 1) := by decide +kernel
theorem dX6_resultOf_60 : decode cX6_resultOf 60 = .ok (.invokestatic 122, 3) := by decide +kernel
theorem dX6_resultOf_63 : decode cX6_resultOf 63 = .ok (.ireturn, 1) := by decide +kernel
theorem dX6_resultOf_64 : decode cX6_resultOf 64 = .ok (.iload_n 3, 1) := by decide +kernel
theorem dX6_resultOf_65 : decode cX6_resultOf 65 = .ok (.iload 4, 2) := by decide +kernel
theorem dX6_resultOf_67 : decode cX6_resultOf 67 = .ok (.isub, 1) := by decide +kernel
theorem dX6_resultOf_68 : decode cX6_resultOf 68 = .ok (.invokestatic 122, 3) := by decide +kernel
theorem dX6_resultOf_71 : decode cX6_resultOf 71 = .ok (.ireturn, 1) := by decide +kernel
theorem dX6_resultOf_72 : decode cX6_resultOf 72 = .ok (.iload_n 3, 1) := by decide +kernel
theorem dX6_resultOf_73 : decode cX6_resultOf 73 = .ok (.iload 4, 2) := by decide +kernel
theorem dX6_resultOf_75 : decode cX6_resultOf 75 = .ok (.imul, 1) := by decide +kernel
theorem dX6_resultOf_76 : decode cX6_resultOf 76 = .ok (.invokestatic 122, 3) := by decide +kernel
theorem dX6_resultOf_79 : decode cX6_resultOf 79 = .ok (.ireturn, 1) := by decide +kernel
theorem dX6_resultOf_80 : decode cX6_resultOf 80 = .ok (.iload_n 3, 1) := by decide +kernel
theorem dX6_resultOf_81 : decode cX6_resultOf 81 = .ok (.ireturn, 1) := by decide +kernel
theorem dX6_termValue_0 : decode cX6_termValue 0 = .ok (.iload_n 1, 1) := by decide +kernel
theorem dX6_termValue_1 : decode cX6_termValue 1 = .ok (.sipush 1000, 3) := by decide +kernel
theorem dX6_termValue_4 : decode cX6_termValue 4 = .ok (.if_icmp .ge 7, 3) := by decide +kernel
theorem dX6_termValue_7 : decode cX6_termValue 7 = .ok (.iload_n 1, 1) := by decide +kernel
theorem dX6_termValue_8 : decode cX6_termValue 8 = .ok (.goto 12, 3) := by decide +kernel
theorem dX6_termValue_11 : decode cX6_termValue 11 = .ok (.aload_n 0, 1) := by decide +kernel
theorem dX6_termValue_12 : decode cX6_termValue 12 = .ok (.iload_n 1, 1) := by decide +kernel
theorem dX6_termValue_13 : decode cX6_termValue 13 = .ok (.sipush 1000, 3) := by decide +kernel
theorem dX6_termValue_16 : decode cX6_termValue 16 = .ok (.isub, 1) := by decide +kernel
theorem dX6_termValue_17 : decode cX6_termValue 17 = .ok (.invokevirtual 68, 3) := by decide +kernel
theorem dX6_termValue_20 : decode cX6_termValue 20 = .ok (.ireturn, 1) := by decide +kernel
theorem dX6_nearestValue_0 : decode cX6_nearestValue 0 = .ok (.sipush (-999), 3) := by decide +kernel
theorem dX6_nearestValue_3 : decode cX6_nearestValue 3 = .ok (.sipush 999, 3) := by decide +kernel
theorem dX6_nearestValue_6 : decode cX6_nearestValue 6 = .ok (.iload_n 0, 1) := by decide +kernel
theorem dX6_nearestValue_7 : decode cX6_nearestValue 7 = .ok (.invokestatic 125, 3) := by decide +kernel
theorem dX6_nearestValue_10 : decode cX6_nearestValue 10 = .ok (.invokestatic 104, 3) := by decide +kernel
theorem dX6_nearestValue_13 : decode cX6_nearestValue 13 = .ok (.ireturn, 1) := by decide +kernel
theorem dX6_setCell_0 : decode cX6_setCell 0 = .ok (.iload_n 1, 1) := by decide +kernel
theorem dX6_setCell_1 : decode cX6_setCell 1 = .ok (.invokestatic 128, 3) := by decide +kernel
theorem dX6_setCell_4 : decode cX6_setCell 4 = .ok (.ifCond .eq 10, 3) := by decide +kernel
theorem dX6_setCell_7 : decode cX6_setCell 7 = .ok (.aload_n 0, 1) := by decide +kernel
theorem dX6_setCell_8 : decode cX6_setCell 8 = .ok (.getfield 18, 3) := by decide +kernel
theorem dX6_setCell_11 : decode cX6_setCell 11 = .ok (.iload_n 1, 1) := by decide +kernel
theorem dX6_setCell_12 : decode cX6_setCell 12 = .ok (.iload_n 2, 1) := by decide +kernel
theorem dX6_setCell_13 : decode cX6_setCell 13 = .ok (.iastore, 1) := by decide +kernel
theorem dX6_setCell_14 : decode cX6_setCell 14 = .ok (.return_, 1) := by decide +kernel
theorem dX6_keepMark_0 : decode cX6_keepMark 0 = .ok (.aload_n 0, 1) := by decide +kernel
theorem dX6_keepMark_1 : decode cX6_keepMark 1 = .ok (.getfield 55, 3) := by decide +kernel
theorem dX6_keepMark_4 : decode cX6_keepMark 4 = .ok (.iconst 0, 1) := by decide +kernel
theorem dX6_keepMark_5 : decode cX6_keepMark 5 = .ok (.bipush 39, 2) := by decide +kernel
theorem dX6_keepMark_7 : decode cX6_keepMark 7 = .ok (.invokestatic 100, 3) := by decide +kernel
theorem dX6_keepMark_10 : decode cX6_keepMark 10 = .ok (.ifCond .eq 37, 3) := by decide +kernel
theorem dX6_keepMark_13 : decode cX6_keepMark 13 = .ok (.aload_n 0, 1) := by decide +kernel
theorem dX6_keepMark_14 : decode cX6_keepMark 14 = .ok (.getfield 25, 3) := by decide +kernel
theorem dX6_keepMark_17 : decode cX6_keepMark 17 = .ok (.aload_n 0, 1) := by decide +kernel
theorem dX6_keepMark_18 : decode cX6_keepMark 18 = .ok (.getfield 55, 3) := by decide +kernel
theorem dX6_keepMark_21 : decode cX6_keepMark 21 = .ok (.aload_n 0, 1) := by decide +kernel
theorem dX6_keepMark_22 : decode cX6_keepMark 22 = .ok (.getfield 45, 3) := by decide +kernel
theorem dX6_keepMark_25 : decode cX6_keepMark 25 = .ok (.iastore, 1) := by decide +kernel
theorem dX6_keepMark_26 : decode cX6_keepMark 26 = .ok (.aload_n 0, 1) := by decide +kernel
theorem dX6_keepMark_27 : decode cX6_keepMark 27 = .ok (.getfield 18, 3) := by decide +kernel
theorem dX6_keepMark_30 : decode cX6_keepMark 30 = .ok (.iconst 0, 1) := by decide +kernel
theorem dX6_keepMark_31 : decode cX6_keepMark 31 = .ok (.aload_n 0, 1) := by decide +kernel
theorem dX6_keepMark_32 : decode cX6_keepMark 32 = .ok (.getfield 22, 3) := by decide +kernel
theorem dX6_keepMark_35 : decode cX6_keepMark 35 = .ok (.aload_n 0, 1) := by decide +kernel
theorem dX6_keepMark_36 : decode cX6_keepMark 36 = .ok (.getfield 55, 3) := by decide +kernel
theorem dX6_keepMark_39 : decode cX6_keepMark 39 = .ok (.bipush 6, 2) := by decide +kernel
theorem dX6_keepMark_41 : decode cX6_keepMark 41 = .ok (.imul, 1) := by decide +kernel
theorem dX6_keepMark_42 : decode cX6_keepMark 42 = .ok (.bipush 6, 2) := by decide +kernel
theorem dX6_keepMark_44 : decode cX6_keepMark 44 = .ok (.invokestatic 131, 3) := by decide +kernel
theorem dX6_keepMark_47 : decode cX6_keepMark 47 = .ok (.aload_n 0, 1) := by decide +kernel
theorem dX6_keepMark_48 : decode cX6_keepMark 48 = .ok (.dup, 1) := by decide +kernel
theorem dX6_keepMark_49 : decode cX6_keepMark 49 = .ok (.getfield 55, 3) := by decide +kernel
theorem dX6_keepMark_52 : decode cX6_keepMark 52 = .ok (.iconst 1, 1) := by decide +kernel
theorem dX6_keepMark_53 : decode cX6_keepMark 53 = .ok (.iadd, 1) := by decide +kernel
theorem dX6_keepMark_54 : decode cX6_keepMark 54 = .ok (.putfield 55, 3) := by decide +kernel
theorem dX6_keepMark_57 : decode cX6_keepMark 57 = .ok (.return_, 1) := by decide +kernel
theorem dX6_marksKept_0 : decode cX6_marksKept 0 = .ok (.aload_n 0, 1) := by decide +kernel
theorem dX6_marksKept_1 : decode cX6_marksKept 1 = .ok (.getfield 55, 3) := by decide +kernel
theorem dX6_marksKept_4 : decode cX6_marksKept 4 = .ok (.bipush 40, 2) := by decide +kernel
theorem dX6_marksKept_6 : decode cX6_marksKept 6 = .ok (.invokestatic 125, 3) := by decide +kernel
theorem dX6_marksKept_9 : decode cX6_marksKept 9 = .ok (.ireturn, 1) := by decide +kernel
theorem dX6_valueOf_0 : decode cX6_valueOf 0 = .ok (.iload_n 1, 1) := by decide +kernel
theorem dX6_valueOf_1 : decode cX6_valueOf 1 = .ok (.iconst 0, 1) := by decide +kernel
theorem dX6_valueOf_2 : decode cX6_valueOf 2 = .ok (.iconst 5, 1) := by decide +kernel
theorem dX6_valueOf_3 : decode cX6_valueOf 3 = .ok (.invokestatic 100, 3) := by decide +kernel
theorem dX6_valueOf_6 : decode cX6_valueOf 6 = .ok (.ifCond .eq 12, 3) := by decide +kernel
theorem dX6_valueOf_9 : decode cX6_valueOf 9 = .ok (.aload_n 0, 1) := by decide +kernel
theorem dX6_valueOf_10 : decode cX6_valueOf 10 = .ok (.getfield 18, 3) := by decide +kernel
theorem dX6_valueOf_13 : decode cX6_valueOf 13 = .ok (.iload_n 1, 1) := by decide +kernel
theorem dX6_valueOf_14 : decode cX6_valueOf 14 = .ok (.iaload, 1) := by decide +kernel
theorem dX6_valueOf_15 : decode cX6_valueOf 15 = .ok (.goto 4, 3) := by decide +kernel
theorem dX6_valueOf_18 : decode cX6_valueOf 18 = .ok (.iconst 0, 1) := by decide +kernel
theorem dX6_valueOf_19 : decode cX6_valueOf 19 = .ok (.ireturn, 1) := by decide +kernel
theorem dX6_cellAtMark_0 : decode cX6_cellAtMark 0 = .ok (.iload_n 1, 1) := by decide +kernel
theorem dX6_cellAtMark_1 : decode cX6_cellAtMark 1 = .ok (.iconst 0, 1) := by decide +kernel
theorem dX6_cellAtMark_2 : decode cX6_cellAtMark 2 = .ok (.aload_n 0, 1) := by decide +kernel
theorem dX6_cellAtMark_3 : decode cX6_cellAtMark 3 = .ok (.invokevirtual 137, 3) := by decide +kernel
theorem dX6_cellAtMark_6 : decode cX6_cellAtMark 6 = .ok (.iconst 1, 1) := by decide +kernel
theorem dX6_cellAtMark_7 : decode cX6_cellAtMark 7 = .ok (.isub, 1) := by decide +kernel
theorem dX6_cellAtMark_8 : decode cX6_cellAtMark 8 = .ok (.invokestatic 100, 3) := by decide +kernel
theorem dX6_cellAtMark_11 : decode cX6_cellAtMark 11 = .ok (.ifCond .eq 14, 3) := by decide +kernel
theorem dX6_cellAtMark_14 : decode cX6_cellAtMark 14 = .ok (.iload_n 2, 1) := by decide +kernel
theorem dX6_cellAtMark_15 : decode cX6_cellAtMark 15 = .ok (.invokestatic 128, 3) := by decide +kernel
theorem dX6_cellAtMark_18 : decode cX6_cellAtMark 18 = .ok (.ifCond .eq 7, 3) := by decide +kernel
theorem dX6_cellAtMark_21 : decode cX6_cellAtMark 21 = .ok (.iconst 1, 1) := by decide +kernel
theorem dX6_cellAtMark_22 : decode cX6_cellAtMark 22 = .ok (.goto 4, 3) := by decide +kernel
theorem dX6_cellAtMark_25 : decode cX6_cellAtMark 25 = .ok (.iconst 0, 1) := by decide +kernel
theorem dX6_cellAtMark_26 : decode cX6_cellAtMark 26 = .ok (.istore_n 3, 1) := by decide +kernel
theorem dX6_cellAtMark_27 : decode cX6_cellAtMark 27 = .ok (.iload_n 3, 1) := by decide +kernel
theorem dX6_cellAtMark_28 : decode cX6_cellAtMark 28 = .ok (.ifCond .eq 17, 3) := by decide +kernel
theorem dX6_cellAtMark_31 : decode cX6_cellAtMark 31 = .ok (.aload_n 0, 1) := by decide +kernel
theorem dX6_cellAtMark_32 : decode cX6_cellAtMark 32 = .ok (.getfield 22, 3) := by decide +kernel
theorem dX6_cellAtMark_35 : decode cX6_cellAtMark 35 = .ok (.iload_n 1, 1) := by decide +kernel
theorem dX6_cellAtMark_36 : decode cX6_cellAtMark 36 = .ok (.bipush 6, 2) := by decide +kernel
theorem dX6_cellAtMark_38 : decode cX6_cellAtMark 38 = .ok (.imul, 1) := by decide +kernel
theorem dX6_cellAtMark_39 : decode cX6_cellAtMark 39 = .ok (.iload_n 2, 1) := by decide +kernel
theorem dX6_cellAtMark_40 : decode cX6_cellAtMark 40 = .ok (.iadd, 1) := by decide +kernel
theorem dX6_cellAtMark_41 : decode cX6_cellAtMark 41 = .ok (.iaload, 1) := by decide +kernel
theorem dX6_cellAtMark_42 : decode cX6_cellAtMark 42 = .ok (.goto 6, 3) := by decide +kernel
theorem dX6_cellAtMark_45 : decode cX6_cellAtMark 45 = .ok (.sipush (-10009), 3) := by decide +kernel
theorem dX6_cellAtMark_48 : decode cX6_cellAtMark 48 = .ok (.ireturn, 1) := by decide +kernel
theorem dX6_stepsAheadOf_0 : decode cX6_stepsAheadOf 0 = .ok (.iload_n 1, 1) := by decide +kernel
theorem dX6_stepsAheadOf_1 : decode cX6_stepsAheadOf 1 = .ok (.iconst 0, 1) := by decide +kernel
theorem dX6_stepsAheadOf_2 : decode cX6_stepsAheadOf 2 = .ok (.aload_n 0, 1) := by decide +kernel
theorem dX6_stepsAheadOf_3 : decode cX6_stepsAheadOf 3 = .ok (.invokevirtual 137, 3) := by decide +kernel
theorem dX6_stepsAheadOf_6 : decode cX6_stepsAheadOf 6 = .ok (.iconst 1, 1) := by decide +kernel
theorem dX6_stepsAheadOf_7 : decode cX6_stepsAheadOf 7 = .ok (.isub, 1) := by decide +kernel
theorem dX6_stepsAheadOf_8 : decode cX6_stepsAheadOf 8 = .ok (.invokestatic 100, 3) := by decide +kernel
theorem dX6_stepsAheadOf_11 : decode cX6_stepsAheadOf 11 = .ok (.ifCond .eq 12, 3) := by decide +kernel
theorem dX6_stepsAheadOf_14 : decode cX6_stepsAheadOf 14 = .ok (.aload_n 0, 1) := by decide +kernel
theorem dX6_stepsAheadOf_15 : decode cX6_stepsAheadOf 15 = .ok (.getfield 25, 3) := by decide +kernel
theorem dX6_stepsAheadOf_18 : decode cX6_stepsAheadOf 18 = .ok (.iload_n 1, 1) := by decide +kernel
theorem dX6_stepsAheadOf_19 : decode cX6_stepsAheadOf 19 = .ok (.iaload, 1) := by decide +kernel
theorem dX6_stepsAheadOf_20 : decode cX6_stepsAheadOf 20 = .ok (.goto 4, 3) := by decide +kernel
theorem dX6_stepsAheadOf_23 : decode cX6_stepsAheadOf 23 = .ok (.iconst 0, 1) := by decide +kernel
theorem dX6_stepsAheadOf_24 : decode cX6_stepsAheadOf 24 = .ok (.ireturn, 1) := by decide +kernel
theorem dX7_init_0 : decode cX7_init 0 = .ok (.aload_n 0, 1) := by decide +kernel
theorem dX7_init_1 : decode cX7_init 1 = .ok (.invokespecial 3, 3) := by decide +kernel
theorem dX7_init_4 : decode cX7_init 4 = .ok (.aload_n 0, 1) := by decide +kernel
theorem dX7_init_5 : decode cX7_init 5 = .ok (.new 9, 3) := by decide +kernel
theorem dX7_init_8 : decode cX7_init 8 = .ok (.dup, 1) := by decide +kernel
theorem dX7_init_9 : decode cX7_init 9 = .ok (.invokespecial 11, 3) := by decide +kernel
theorem dX7_init_12 : decode cX7_init 12 = .ok (.putfield 12, 3) := by decide +kernel
theorem dX7_init_15 : decode cX7_init 15 = .ok (.aload_n 0, 1) := by decide +kernel
theorem dX7_init_16 : decode cX7_init 16 = .ok (.new 16, 3) := by decide +kernel
theorem dX7_init_19 : decode cX7_init 19 = .ok (.dup, 1) := by decide +kernel
theorem dX7_init_20 : decode cX7_init 20 = .ok (.invokespecial 18, 3) := by decide +kernel
theorem dX7_init_23 : decode cX7_init 23 = .ok (.putfield 19, 3) := by decide +kernel
theorem dX7_init_26 : decode cX7_init 26 = .ok (.aload_n 0, 1) := by decide +kernel
theorem dX7_init_27 : decode cX7_init 27 = .ok (.new 23, 3) := by decide +kernel
theorem dX7_init_30 : decode cX7_init 30 = .ok (.dup, 1) := by decide +kernel
theorem dX7_init_31 : decode cX7_init 31 = .ok (.aload_n 0, 1) := by decide +kernel
theorem dX7_init_32 : decode cX7_init 32 = .ok (.getfield 12, 3) := by decide +kernel
theorem dX7_init_35 : decode cX7_init 35 = .ok (.aload_n 0, 1) := by decide +kernel
theorem dX7_init_36 : decode cX7_init 36 = .ok (.getfield 19, 3) := by decide +kernel
theorem dX7_init_39 : decode cX7_init 39 = .ok (.invokespecial 25, 3) := by decide +kernel
theorem dX7_init_42 : decode cX7_init 42 = .ok (.putfield 28, 3) := by decide +kernel
theorem dX7_init_45 : decode cX7_init 45 = .ok (.aload_n 0, 1) := by decide +kernel
theorem dX7_init_46 : decode cX7_init 46 = .ok (.new 32, 3) := by decide +kernel
theorem dX7_init_49 : decode cX7_init 49 = .ok (.dup, 1) := by decide +kernel
theorem dX7_init_50 : decode cX7_init 50 = .ok (.invokespecial 34, 3) := by decide +kernel
theorem dX7_init_53 : decode cX7_init 53 = .ok (.putfield 35, 3) := by decide +kernel
theorem dX7_init_56 : decode cX7_init 56 = .ok (.aload_n 0, 1) := by decide +kernel
theorem dX7_init_57 : decode cX7_init 57 = .ok (.new 39, 3) := by decide +kernel
theorem dX7_init_60 : decode cX7_init 60 = .ok (.dup, 1) := by decide +kernel
theorem dX7_init_61 : decode cX7_init 61 = .ok (.invokespecial 41, 3) := by decide +kernel
theorem dX7_init_64 : decode cX7_init 64 = .ok (.putfield 42, 3) := by decide +kernel
theorem dX7_init_67 : decode cX7_init 67 = .ok (.aload_n 0, 1) := by decide +kernel
theorem dX7_init_68 : decode cX7_init 68 = .ok (.bipush 16, 2) := by decide +kernel
theorem dX7_init_70 : decode cX7_init 70 = .ok (.anewarray 46, 3) := by decide +kernel
theorem dX7_init_73 : decode cX7_init 73 = .ok (.putfield 48, 3) := by decide +kernel
theorem dX7_init_76 : decode cX7_init 76 = .ok (.iconst 0, 1) := by decide +kernel
theorem dX7_init_77 : decode cX7_init 77 = .ok (.istore_n 1, 1) := by decide +kernel
theorem dX7_init_78 : decode cX7_init 78 = .ok (.iload_n 1, 1) := by decide +kernel
theorem dX7_init_79 : decode cX7_init 79 = .ok (.bipush 16, 2) := by decide +kernel
theorem dX7_init_81 : decode cX7_init 81 = .ok (.if_icmp .ge 22, 3) := by decide +kernel
theorem dX7_init_84 : decode cX7_init 84 = .ok (.aload_n 0, 1) := by decide +kernel
theorem dX7_init_85 : decode cX7_init 85 = .ok (.getfield 48, 3) := by decide +kernel
theorem dX7_init_88 : decode cX7_init 88 = .ok (.iload_n 1, 1) := by decide +kernel
theorem dX7_init_89 : decode cX7_init 89 = .ok (.new 46, 3) := by decide +kernel
theorem dX7_init_92 : decode cX7_init 92 = .ok (.dup, 1) := by decide +kernel
theorem dX7_init_93 : decode cX7_init 93 = .ok (.invokespecial 52, 3) := by decide +kernel
theorem dX7_init_96 : decode cX7_init 96 = .ok (.aastore, 1) := by decide +kernel
theorem dX7_init_97 : decode cX7_init 97 = .ok (.iinc 1 1, 3) := by decide +kernel
theorem dX7_init_100 : decode cX7_init 100 = .ok (.goto (-22), 3) := by decide +kernel
theorem dX7_init_103 : decode cX7_init 103 = .ok (.aload_n 0, 1) := by decide +kernel
theorem dX7_init_104 : decode cX7_init 104 = .ok (.new 16, 3) := by decide +kernel
theorem dX7_init_107 : decode cX7_init 107 = .ok (.dup, 1) := by decide +kernel
theorem dX7_init_108 : decode cX7_init 108 = .ok (.invokespecial 18, 3) := by decide +kernel
theorem dX7_init_111 : decode cX7_init 111 = .ok (.putfield 53, 3) := by decide +kernel
theorem dX7_init_114 : decode cX7_init 114 = .ok (.aload_n 0, 1) := by decide +kernel
theorem dX7_init_115 : decode cX7_init 115 = .ok (.new 16, 3) := by decide +kernel
theorem dX7_init_118 : decode cX7_init 118 = .ok (.dup, 1) := by decide +kernel
theorem dX7_init_119 : decode cX7_init 119 = .ok (.invokespecial 18, 3) := by decide +kernel
theorem dX7_init_122 : decode cX7_init 122 = .ok (.putfield 56, 3) := by decide +kernel
theorem dX7_init_125 : decode cX7_init 125 = .ok (.return_, 1) := by decide +kernel
theorem dX7_append_0 : decode cX7_append 0 = .ok (.iload_n 1, 1) := by decide +kernel
theorem dX7_append_1 : decode cX7_append 1 = .ok (.iconst 1, 1) := by decide +kernel
theorem dX7_append_2 : decode cX7_append 2 = .ok (.sipush 255, 3) := by decide +kernel
theorem dX7_append_5 : decode cX7_append 5 = .ok (.invokestatic 59, 3) := by decide +kernel
theorem dX7_append_8 : decode cX7_append 8 = .ok (.ifCond .ne 7, 3) := by decide +kernel
theorem dX7_append_11 : decode cX7_append 11 = .ok (.sipush (-10001), 3) := by decide +kernel
theorem dX7_append_14 : decode cX7_append 14 = .ok (.ireturn, 1) := by decide +kernel
theorem dX7_append_15 : decode cX7_append 15 = .ok (.aload_n 0, 1) := by decide +kernel
theorem dX7_append_16 : decode cX7_append 16 = .ok (.getfield 12, 3) := by decide +kernel
theorem dX7_append_19 : decode cX7_append 19 = .ok (.invokevirtual 63, 3) := by decide +kernel
theorem dX7_append_22 : decode cX7_append 22 = .ok (.ifCond .eq 7, 3) := by decide +kernel
theorem dX7_append_25 : decode cX7_append 25 = .ok (.sipush (-10003), 3) := by decide +kernel
theorem dX7_append_28 : decode cX7_append 28 = .ok (.ireturn, 1) := by decide +kernel
theorem dX7_append_29 : decode cX7_append 29 = .ok (.aload_n 0, 1) := by decide +kernel
theorem dX7_append_30 : decode cX7_append 30 = .ok (.getfield 12, 3) := by decide +kernel
theorem dX7_append_33 : decode cX7_append 33 = .ok (.iload_n 1, 1) := by decide +kernel
theorem dX7_append_34 : decode cX7_append 34 = .ok (.i2c, 1) := by decide +kernel
theorem dX7_append_35 : decode cX7_append 35 = .ok (.invokevirtual 67, 3) := by decide +kernel
theorem dX7_append_38 : decode cX7_append 38 = .ok (.aload_n 0, 1) := by decide +kernel
theorem dX7_append_39 : decode cX7_append 39 = .ok (.getfield 12, 3) := by decide +kernel
theorem dX7_append_42 : decode cX7_append 42 = .ok (.getfield 71, 3) := by decide +kernel
theorem dX7_append_45 : decode cX7_append 45 = .ok (.ireturn, 1) := by decide +kernel
theorem dX7_clearText_0 : decode cX7_clearText 0 = .ok (.aload_n 0, 1) := by decide +kernel
theorem dX7_clearText_1 : decode cX7_clearText 1 = .ok (.getfield 12, 3) := by decide +kernel
theorem dX7_clearText_4 : decode cX7_clearText 4 = .ok (.getfield 71, 3) := by decide +kernel
theorem dX7_clearText_7 : decode cX7_clearText 7 = .ok (.istore_n 1, 1) := by decide +kernel
theorem dX7_clearText_8 : decode cX7_clearText 8 = .ok (.aload_n 0, 1) := by decide +kernel
theorem dX7_clearText_9 : decode cX7_clearText 9 = .ok (.getfield 12, 3) := by decide +kernel
theorem dX7_clearText_12 : decode cX7_clearText 12 = .ok (.iconst 0, 1) := by decide +kernel
theorem dX7_clearText_13 : decode cX7_clearText 13 = .ok (.putfield 71, 3) := by decide +kernel
theorem dX7_clearText_16 : decode cX7_clearText 16 = .ok (.iload_n 1, 1) := by decide +kernel
theorem dX7_clearText_17 : decode cX7_clearText 17 = .ok (.ireturn, 1) := by decide +kernel
theorem dX7_read_0 : decode cX7_read 0 = .ok (.iload_n 1, 1) := by decide +kernel
theorem dX7_read_1 : decode cX7_read 1 = .ok (.invokestatic 75, 3) := by decide +kernel
theorem dX7_read_4 : decode cX7_read 4 = .ok (.ifCond .ne 7, 3) := by decide +kernel
theorem dX7_read_7 : decode cX7_read 7 = .ok (.sipush (-10001), 3) := by decide +kernel
theorem dX7_read_10 : decode cX7_read 10 = .ok (.ireturn, 1) := by decide +kernel
theorem dX7_read_11 : decode cX7_read 11 = .ok (.aload_n 0, 1) := by decide +kernel
theorem dX7_read_12 : decode cX7_read 12 = .ok (.getfield 28, 3) := by decide +kernel
theorem dX7_read_15 : decode cX7_read 15 = .ok (.invokevirtual 79, 3) := by decide +kernel
theorem dX7_read_18 : decode cX7_read 18 = .ok (.ifCond .ne 15, 3) := by decide +kernel
theorem dX7_read_21 : decode cX7_read 21 = .ok (.sipush (-1000), 3) := by decide +kernel
theorem dX7_read_24 : decode cX7_read 24 = .ok (.aload_n 0, 1) := by decide +kernel
theorem dX7_read_25 : decode cX7_read 25 = .ok (.getfield 28, 3) := by decide +kernel
theorem dX7_read_28 : decode cX7_read 28 = .ok (.getfield 82, 3) := by decide +kernel
theorem dX7_read_31 : decode cX7_read 31 = .ok (.isub, 1) := by decide +kernel
theorem dX7_read_32 : decode cX7_read 32 = .ok (.ireturn, 1) := by decide +kernel
theorem dX7_read_33 : decode cX7_read 33 = .ok (.aload_n 0, 1) := by decide +kernel
theorem dX7_read_34 : decode cX7_read 34 = .ok (.getfield 35, 3) := by decide +kernel
theorem dX7_read_37 : decode cX7_read 37 = .ok (.aload_n 0, 1) := by decide +kernel
theorem dX7_read_38 : decode cX7_read 38 = .ok (.getfield 53, 3) := by decide +kernel
theorem dX7_read_41 : decode cX7_read 41 = .ok (.aload_n 0, 1) := by decide +kernel
theorem dX7_read_42 : decode cX7_read 42 = .ok (.getfield 56, 3) := by decide +kernel
theorem dX7_read_45 : decode cX7_read 45 = .ok (.invokevirtual 85, 3) := by decide +kernel
theorem dX7_read_48 : decode cX7_read 48 = .ok (.aload_n 0, 1) := by decide +kernel
theorem dX7_read_49 : decode cX7_read 49 = .ok (.iload_n 1, 1) := by decide +kernel
theorem dX7_read_50 : decode cX7_read 50 = .ok (.invokevirtual 89, 3) := by decide +kernel
theorem dX7_read_53 : decode cX7_read 53 = .ok (.astore_n 2, 1) := by decide +kernel
theorem dX7_read_54 : decode cX7_read 54 = .ok (.aload_n 2, 1) := by decide +kernel
theorem dX7_read_55 : decode cX7_read 55 = .ok (.aload_n 0, 1) := by decide +kernel
theorem dX7_read_56 : decode cX7_read 56 = .ok (.getfield 19, 3) := by decide +kernel
theorem dX7_read_59 : decode cX7_read 59 = .ok (.invokevirtual 93, 3) := by decide +kernel
theorem dX7_read_62 : decode cX7_read 62 = .ok (.aload_n 2, 1) := by decide +kernel
theorem dX7_read_63 : decode cX7_read 63 = .ok (.getfield 97, 3) := by decide +kernel
theorem dX7_read_66 : decode cX7_read 66 = .ok (.ireturn, 1) := by decide +kernel
theorem dX7_copy_0 : decode cX7_copy 0 = .ok (.aload_n 0, 1) := by decide +kernel
theorem dX7_copy_1 : decode cX7_copy 1 = .ok (.getfield 35, 3) := by decide +kernel
theorem dX7_copy_4 : decode cX7_copy 4 = .ok (.aload_n 0, 1) := by decide +kernel
theorem dX7_copy_5 : decode cX7_copy 5 = .ok (.getfield 53, 3) := by decide +kernel
theorem dX7_copy_8 : decode cX7_copy 8 = .ok (.aload_n 0, 1) := by decide +kernel
theorem dX7_copy_9 : decode cX7_copy 9 = .ok (.getfield 56, 3) := by decide +kernel
theorem dX7_copy_12 : decode cX7_copy 12 = .ok (.invokevirtual 85, 3) := by decide +kernel
theorem dX7_copy_15 : decode cX7_copy 15 = .ok (.aload_n 0, 1) := by decide +kernel
theorem dX7_copy_16 : decode cX7_copy 16 = .ok (.getfield 56, 3) := by decide +kernel
theorem dX7_copy_19 : decode cX7_copy 19 = .ok (.aload_n 0, 1) := by decide +kernel
theorem dX7_copy_20 : decode cX7_copy 20 = .ok (.getfield 53, 3) := by decide +kernel
theorem dX7_copy_23 : decode cX7_copy 23 = .ok (.invokevirtual 93, 3) := by decide +kernel
theorem dX7_copy_26 : decode cX7_copy 26 = .ok (.aload_n 0, 1) := by decide +kernel
theorem dX7_copy_27 : decode cX7_copy 27 = .ok (.getfield 56, 3) := by decide +kernel
theorem dX7_copy_30 : decode cX7_copy 30 = .ok (.getfield 97, 3) := by decide +kernel
theorem dX7_copy_33 : decode cX7_copy 33 = .ok (.ireturn, 1) := by decide +kernel
theorem dX7_exchange_0 : decode cX7_exchange 0 = .ok (.aload_n 0, 1) := by decide +kernel
theorem dX7_exchange_1 : decode cX7_exchange 1 = .ok (.getfield 35, 3) := by decide +kernel
theorem dX7_exchange_4 : decode cX7_exchange 4 = .ok (.aload_n 0, 1) := by decide +kernel
theorem dX7_exchange_5 : decode cX7_exchange 5 = .ok (.getfield 53, 3) := by decide +kernel
theorem dX7_exchange_8 : decode cX7_exchange 8 = .ok (.aload_n 0, 1) := by decide +kernel
theorem dX7_exchange_9 : decode cX7_exchange 9 = .ok (.getfield 56, 3) := by decide +kernel
theorem dX7_exchange_12 : decode cX7_exchange 12 = .ok (.invokevirtual 85, 3) := by decide +kernel
theorem dX7_exchange_15 : decode cX7_exchange 15 = .ok (.aload_n 0, 1) := by decide +kernel
theorem dX7_exchange_16 : decode cX7_exchange 16 = .ok (.getfield 53, 3) := by decide +kernel
theorem dX7_exchange_19 : decode cX7_exchange 19 = .ok (.astore_n 1, 1) := by decide +kernel
theorem dX7_exchange_20 : decode cX7_exchange 20 = .ok (.aload_n 0, 1) := by decide +kernel
theorem dX7_exchange_21 : decode cX7_exchange 21 = .ok (.aload_n 0, 1) := by decide +kernel
theorem dX7_exchange_22 : decode cX7_exchange 22 = .ok (.getfield 56, 3) := by decide +kernel
theorem dX7_exchange_25 : decode cX7_exchange 25 = .ok (.putfield 53, 3) := by decide +kernel
theorem dX7_exchange_28 : decode cX7_exchange 28 = .ok (.aload_n 0, 1) := by decide +kernel
theorem dX7_exchange_29 : decode cX7_exchange 29 = .ok (.aload_n 1, 1) := by decide +kernel
theorem dX7_exchange_30 : decode cX7_exchange 30 = .ok (.putfield 56, 3) := by decide +kernel
theorem dX7_exchange_33 : decode cX7_exchange 33 = .ok (.aload_n 0, 1) := by decide +kernel
theorem dX7_exchange_34 : decode cX7_exchange 34 = .ok (.getfield 53, 3) := by decide +kernel
theorem dX7_exchange_37 : decode cX7_exchange 37 = .ok (.getfield 97, 3) := by decide +kernel
theorem dX7_exchange_40 : decode cX7_exchange 40 = .ok (.ireturn, 1) := by decide +kernel
theorem dX7_cut_0 : decode cX7_cut 0 = .ok (.iload_n 1, 1) := by decide +kernel
theorem dX7_cut_1 : decode cX7_cut 1 = .ok (.invokestatic 75, 3) := by decide +kernel
theorem dX7_cut_4 : decode cX7_cut 4 = .ok (.ifCond .eq 15, 3) := by decide +kernel
theorem dX7_cut_7 : decode cX7_cut 7 = .ok (.aload_n 0, 1) := by decide +kernel
theorem dX7_cut_8 : decode cX7_cut 8 = .ok (.iload_n 1, 1) := by decide +kernel
theorem dX7_cut_9 : decode cX7_cut 9 = .ok (.invokevirtual 89, 3) := by decide +kernel
theorem dX7_cut_12 : decode cX7_cut 12 = .ok (.iload_n 2, 1) := by decide +kernel
theorem dX7_cut_13 : decode cX7_cut 13 = .ok (.invokevirtual 100, 3) := by decide +kernel
theorem dX7_cut_16 : decode cX7_cut 16 = .ok (.ifCond .ne 7, 3) := by decide +kernel
theorem dX7_cut_19 : decode cX7_cut 19 = .ok (.sipush (-10001), 3) := by decide +kernel
theorem dX7_cut_22 : decode cX7_cut 22 = .ok (.ireturn, 1) := by decide +kernel
theorem dX7_cut_23 : decode cX7_cut 23 = .ok (.aload_n 0, 1) := by decide +kernel
theorem dX7_cut_24 : decode cX7_cut 24 = .ok (.getfield 35, 3) := by decide +kernel
theorem dX7_cut_27 : decode cX7_cut 27 = .ok (.aload_n 0, 1) := by decide +kernel
theorem dX7_cut_28 : decode cX7_cut 28 = .ok (.getfield 53, 3) := by decide +kernel
theorem dX7_cut_31 : decode cX7_cut 31 = .ok (.aload_n 0, 1) := by decide +kernel
theorem dX7_cut_32 : decode cX7_cut 32 = .ok (.getfield 56, 3) := by decide +kernel
theorem dX7_cut_35 : decode cX7_cut 35 = .ok (.invokevirtual 85, 3) := by decide +kernel
theorem dX7_cut_38 : decode cX7_cut 38 = .ok (.aload_n 0, 1) := by decide +kernel
theorem dX7_cut_39 : decode cX7_cut 39 = .ok (.iload_n 1, 1) := by decide +kernel
theorem dX7_cut_40 : decode cX7_cut 40 = .ok (.invokevirtual 89, 3) := by decide +kernel
theorem dX7_cut_43 : decode cX7_cut 43 = .ok (.astore_n 3, 1) := by decide +kernel
theorem dX7_cut_44 : decode cX7_cut 44 = .ok (.aload_n 3, 1) := by decide +kernel
theorem dX7_cut_45 : decode cX7_cut 45 = .ok (.iload_n 2, 1) := by decide +kernel
theorem dX7_cut_46 : decode cX7_cut 46 = .ok (.invokevirtual 103, 3) := by decide +kernel
theorem dX7_cut_49 : decode cX7_cut 49 = .ok (.aload_n 3, 1) := by decide +kernel
theorem dX7_cut_50 : decode cX7_cut 50 = .ok (.getfield 97, 3) := by decide +kernel
theorem dX7_cut_53 : decode cX7_cut 53 = .ok (.ireturn, 1) := by decide +kernel
theorem dX7_undo_0 : decode cX7_undo 0 = .ok (.aload_n 0, 1) := by decide +kernel
theorem dX7_undo_1 : decode cX7_undo 1 = .ok (.getfield 35, 3) := by decide +kernel
theorem dX7_undo_4 : decode cX7_undo 4 = .ok (.getfield 107, 3) := by decide +kernel
theorem dX7_undo_7 : decode cX7_undo 7 = .ok (.ifCond .ne 7, 3) := by decide +kernel
theorem dX7_undo_10 : decode cX7_undo 10 = .ok (.sipush (-10002), 3) := by decide +kernel
theorem dX7_undo_13 : decode cX7_undo 13 = .ok (.ireturn, 1) := by decide +kernel
theorem dX7_undo_14 : decode cX7_undo 14 = .ok (.aload_n 0, 1) := by decide +kernel
theorem dX7_undo_15 : decode cX7_undo 15 = .ok (.getfield 35, 3) := by decide +kernel
theorem dX7_undo_18 : decode cX7_undo 18 = .ok (.aload_n 0, 1) := by decide +kernel
theorem dX7_undo_19 : decode cX7_undo 19 = .ok (.getfield 53, 3) := by decide +kernel
theorem dX7_undo_22 : decode cX7_undo 22 = .ok (.aload_n 0, 1) := by decide +kernel
theorem dX7_undo_23 : decode cX7_undo 23 = .ok (.getfield 56, 3) := by decide +kernel
theorem dX7_undo_26 : decode cX7_undo 26 = .ok (.invokevirtual 108, 3) := by decide +kernel
theorem dX7_undo_29 : decode cX7_undo 29 = .ok (.aload_n 0, 1) := by decide +kernel
theorem dX7_undo_30 : decode cX7_undo 30 = .ok (.getfield 35, 3) := by decide +kernel
theorem dX7_undo_33 : decode cX7_undo 33 = .ok (.getfield 107, 3) := by decide +kernel
theorem dX7_undo_36 : decode cX7_undo 36 = .ok (.ireturn, 1) := by decide +kernel
theorem dX7_count_0 : decode cX7_count 0 = .ok (.iload_n 1, 1) := by decide +kernel
theorem dX7_count_1 : decode cX7_count 1 = .ok (.tableswitch 63 0 3 #[31, 39, 47, 55], 31) := by decide +kernel
theorem dX7_count_32 : decode cX7_count 32 = .ok (.aload_n 0, 1) := by decide +kernel
theorem dX7_count_33 : decode cX7_count 33 = .ok (.getfield 53, 3) := by decide +kernel
theorem dX7_count_36 : decode cX7_count 36 = .ok (.getfield 97, 3) := by decide +kernel
theorem dX7_count_39 : decode cX7_count 39 = .ok (.ireturn, 1) := by decide +kernel
theorem dX7_count_40 : decode cX7_count 40 = .ok (.aload_n 0, 1) := by decide +kernel
theorem dX7_count_41 : decode cX7_count 41 = .ok (.getfield 56, 3) := by decide +kernel
theorem dX7_count_44 : decode cX7_count 44 = .ok (.getfield 97, 3) := by decide +kernel
theorem dX7_count_47 : decode cX7_count 47 = .ok (.ireturn, 1) := by decide +kernel
theorem dX7_count_48 : decode cX7_count 48 = .ok (.aload_n 0, 1) := by decide +kernel
theorem dX7_count_49 : decode cX7_count 49 = .ok (.getfield 35, 3) := by decide +kernel
theorem dX7_count_52 : decode cX7_count 52 = .ok (.getfield 107, 3) := by decide +kernel
theorem dX7_count_55 : decode cX7_count 55 = .ok (.ireturn, 1) := by decide +kernel
theorem dX7_count_56 : decode cX7_count 56 = .ok (.aload_n 0, 1) := by decide +kernel
theorem dX7_count_57 : decode cX7_count 57 = .ok (.getfield 12, 3) := by decide +kernel
theorem dX7_count_60 : decode cX7_count 60 = .ok (.getfield 71, 3) := by decide +kernel
theorem dX7_count_63 : decode cX7_count 63 = .ok (.ireturn, 1) := by decide +kernel
theorem dX7_count_64 : decode cX7_count 64 = .ok (.sipush (-10001), 3) := by decide +kernel
theorem dX7_count_67 : decode cX7_count 67 = .ok (.ireturn, 1) := by decide +kernel
theorem dX7_program_0 : decode cX7_program 0 = .ok (.iload_n 1, 1) := by decide +kernel
theorem dX7_program_1 : decode cX7_program 1 = .ok (.invokestatic 75, 3) := by decide +kernel
theorem dX7_program_4 : decode cX7_program 4 = .ok (.ifCond .ne 7, 3) := by decide +kernel
theorem dX7_program_7 : decode cX7_program 7 = .ok (.sipush (-10001), 3) := by decide +kernel
theorem dX7_program_10 : decode cX7_program 10 = .ok (.ireturn, 1) := by decide +kernel
theorem dX7_program_11 : decode cX7_program 11 = .ok (.aload_n 0, 1) := by decide +kernel
theorem dX7_program_12 : decode cX7_program 12 = .ok (.iload_n 1, 1) := by decide +kernel
theorem dX7_program_13 : decode cX7_program 13 = .ok (.invokevirtual 89, 3) := by decide +kernel
theorem dX7_program_16 : decode cX7_program 16 = .ok (.astore_n 3, 1) := by decide +kernel
theorem dX7_program_17 : decode cX7_program 17 = .ok (.iload_n 2, 1) := by decide +kernel
theorem dX7_program_18 : decode cX7_program 18 = .ok (.tableswitch 67 0 7 #[46, 51, 51, 51, 51, 51, 57, 62], 46) := by decide +kernel
theorem dX7_program_64 : decode cX7_program 64 = .ok (.aload_n 3, 1) := by decide +kernel
theorem dX7_program_65 : decode cX7_program 65 = .ok (.getfield 97, 3) := by decide +kernel
theorem dX7_program_68 : decode cX7_program 68 = .ok (.ireturn, 1) := by decide +kernel
theorem dX7_program_69 : decode cX7_program 69 = .ok (.aload_n 3, 1) := by decide +kernel
theorem dX7_program_70 : decode cX7_program 70 = .ok (.iload_n 2, 1) := by decide +kernel
theorem dX7_program_71 : decode cX7_program 71 = .ok (.invokevirtual 111, 3) := by decide +kernel
theorem dX7_program_74 : decode cX7_program 74 = .ok (.ireturn, 1) := by decide +kernel
theorem dX7_program_75 : decode cX7_program 75 = .ok (.aload_n 3, 1) := by decide +kernel
theorem dX7_program_76 : decode cX7_program 76 = .ok (.invokevirtual 115, 3) := by decide +kernel
theorem dX7_program_79 : decode cX7_program 79 = .ok (.ireturn, 1) := by decide +kernel
theorem dX7_program_80 : decode cX7_program 80 = .ok (.aload_n 3, 1) := by decide +kernel
theorem dX7_program_81 : decode cX7_program 81 = .ok (.invokevirtual 119, 3) := by decide +kernel
theorem dX7_program_84 : decode cX7_program 84 = .ok (.ireturn, 1) := by decide +kernel
theorem dX7_program_85 : decode cX7_program 85 = .ok (.sipush (-10001), 3) := by decide +kernel
theorem dX7_program_88 : decode cX7_program 88 = .ok (.ireturn, 1) := by decide +kernel
theorem dX7_run_0 : decode cX7_run 0 = .ok (.iload_n 1, 1) := by decide +kernel
theorem dX7_run_1 : decode cX7_run 1 = .ok (.invokestatic 75, 3) := by decide +kernel
theorem dX7_run_4 : decode cX7_run 4 = .ok (.ifCond .eq 21, 3) := by decide +kernel
theorem dX7_run_7 : decode cX7_run 7 = .ok (.iload_n 2, 1) := by decide +kernel
theorem dX7_run_8 : decode cX7_run 8 = .ok (.iload_n 3, 1) := by decide +kernel
theorem dX7_run_9 : decode cX7_run 9 = .ok (.invokestatic 122, 3) := by decide +kernel
theorem dX7_run_12 : decode cX7_run 12 = .ok (.ifCond .eq 13, 3) := by decide +kernel
theorem dX7_run_15 : decode cX7_run 15 = .ok (.iload 4, 2) := by decide +kernel
theorem dX7_run_17 : decode cX7_run 17 = .ok (.iconst 0, 1) := by decide +kernel
theorem dX7_run_18 : decode cX7_run 18 = .ok (.iconst 5, 1) := by decide +kernel
theorem dX7_run_19 : decode cX7_run 19 = .ok (.invokestatic 59, 3) := by decide +kernel
theorem dX7_run_22 : decode cX7_run 22 = .ok (.ifCond .ne 7, 3) := by decide +kernel
theorem dX7_run_25 : decode cX7_run 25 = .ok (.sipush (-10001), 3) := by decide +kernel
theorem dX7_run_28 : decode cX7_run 28 = .ok (.ireturn, 1) := by decide +kernel
theorem dX7_run_29 : decode cX7_run 29 = .ok (.aload_n 0, 1) := by decide +kernel
theorem dX7_run_30 : decode cX7_run 30 = .ok (.iload_n 1, 1) := by decide +kernel
theorem dX7_run_31 : decode cX7_run 31 = .ok (.iload_n 2, 1) := by decide +kernel
theorem dX7_run_32 : decode cX7_run 32 = .ok (.iload_n 3, 1) := by decide +kernel
theorem dX7_run_33 : decode cX7_run 33 = .ok (.invokevirtual 126, 3) := by decide +kernel
theorem dX7_run_36 : decode cX7_run 36 = .ok (.astore 5, 2) := by decide +kernel
theorem dX7_run_38 : decode cX7_run 38 = .ok (.iload 4, 2) := by decide +kernel
theorem dX7_run_40 : decode cX7_run 40 = .ok (.tableswitch 80 0 4 #[36, 42, 59, 68, 74], 36) := by decide +kernel
theorem dX7_run_76 : decode cX7_run 76 = .ok (.aload 5, 2) := by decide +kernel
theorem dX7_run_78 : decode cX7_run 78 = .ok (.getfield 130, 3) := by decide +kernel
theorem dX7_run_81 : decode cX7_run 81 = .ok (.ireturn, 1) := by decide +kernel
theorem dX7_run_82 : decode cX7_run 82 = .ok (.aload 5, 2) := by decide +kernel
theorem dX7_run_84 : decode cX7_run 84 = .ok (.getfield 135, 3) := by decide +kernel
theorem dX7_run_87 : decode cX7_run 87 = .ok (.getfield 139, 3) := by decide +kernel
theorem dX7_run_90 : decode cX7_run 90 = .ok (.ifCond .eq 7, 3) := by decide +kernel
theorem dX7_run_93 : decode cX7_run 93 = .ok (.iconst 1, 1) := by decide +kernel
theorem dX7_run_94 : decode cX7_run 94 = .ok (.goto 4, 3) := by decide +kernel
theorem dX7_run_97 : decode cX7_run 97 = .ok (.iconst 0, 1) := by decide +kernel
theorem dX7_run_98 : decode cX7_run 98 = .ok (.ireturn, 1) := by decide +kernel
theorem dX7_run_99 : decode cX7_run 99 = .ok (.aload 5, 2) := by decide +kernel
theorem dX7_run_101 : decode cX7_run 101 = .ok (.getfield 135, 3) := by decide +kernel
theorem dX7_run_104 : decode cX7_run 104 = .ok (.getfield 143, 3) := by decide +kernel
theorem dX7_run_107 : decode cX7_run 107 = .ok (.ireturn, 1) := by decide +kernel
theorem dX7_run_108 : decode cX7_run 108 = .ok (.aload 5, 2) := by decide +kernel
theorem dX7_run_110 : decode cX7_run 110 = .ok (.getfield 146, 3) := by decide +kernel
theorem dX7_run_113 : decode cX7_run 113 = .ok (.ireturn, 1) := by decide +kernel
theorem dX7_run_114 : decode cX7_run 114 = .ok (.aload 5, 2) := by decide +kernel
theorem dX7_run_116 : decode cX7_run 116 = .ok (.getfield 149, 3) := by decide +kernel
theorem dX7_run_119 : decode cX7_run 119 = .ok (.ireturn, 1) := by decide +kernel
theorem dX7_run_120 : decode cX7_run 120 = .ok (.aload 5, 2) := by decide +kernel
theorem dX7_run_122 : decode cX7_run 122 = .ok (.getfield 152, 3) := by decide +kernel
theorem dX7_run_125 : decode cX7_run 125 = .ok (.ireturn, 1) := by decide +kernel
theorem dX7_told_0 : decode cX7_told 0 = .ok (.iload_n 1, 1) := by decide +kernel
theorem dX7_told_1 : decode cX7_told 1 = .ok (.invokestatic 75, 3) := by decide +kernel
theorem dX7_told_4 : decode cX7_told 4 = .ok (.ifCond .eq 16, 3) := by decide +kernel
theorem dX7_told_7 : decode cX7_told 7 = .ok (.iload_n 2, 1) := by decide +kernel
theorem dX7_told_8 : decode cX7_told 8 = .ok (.iload_n 3, 1) := by decide +kernel
theorem dX7_told_9 : decode cX7_told 9 = .ok (.invokestatic 122, 3) := by decide +kernel
theorem dX7_told_12 : decode cX7_told 12 = .ok (.ifCond .eq 8, 3) := by decide +kernel
theorem dX7_told_15 : decode cX7_told 15 = .ok (.iload 4, 2) := by decide +kernel
theorem dX7_told_17 : decode cX7_told 17 = .ok (.ifCond .ge 7, 3) := by decide +kernel
theorem dX7_told_20 : decode cX7_told 20 = .ok (.sipush (-10001), 3) := by decide +kernel
theorem dX7_told_23 : decode cX7_told 23 = .ok (.ireturn, 1) := by decide +kernel
theorem dX7_told_24 : decode cX7_told 24 = .ok (.aload_n 0, 1) := by decide +kernel
theorem dX7_told_25 : decode cX7_told 25 = .ok (.iload_n 1, 1) := by decide +kernel
theorem dX7_told_26 : decode cX7_told 26 = .ok (.iload_n 2, 1) := by decide +kernel
theorem dX7_told_27 : decode cX7_told 27 = .ok (.iload_n 3, 1) := by decide +kernel
theorem dX7_told_28 : decode cX7_told 28 = .ok (.invokevirtual 126, 3) := by decide +kernel
theorem dX7_told_31 : decode cX7_told 31 = .ok (.getfield 135, 3) := by decide +kernel
theorem dX7_told_34 : decode cX7_told 34 = .ok (.iload 4, 2) := by decide +kernel
theorem dX7_told_36 : decode cX7_told 36 = .ok (.invokevirtual 155, 3) := by decide +kernel
theorem dX7_told_39 : decode cX7_told 39 = .ok (.ireturn, 1) := by decide +kernel
theorem dX7_cell_0 : decode cX7_cell 0 = .ok (.iload_n 1, 1) := by decide +kernel
theorem dX7_cell_1 : decode cX7_cell 1 = .ok (.invokestatic 75, 3) := by decide +kernel
theorem dX7_cell_4 : decode cX7_cell 4 = .ok (.ifCond .eq 25, 3) := by decide +kernel
theorem dX7_cell_7 : decode cX7_cell 7 = .ok (.iload_n 2, 1) := by decide +kernel
theorem dX7_cell_8 : decode cX7_cell 8 = .ok (.iload_n 3, 1) := by decide +kernel
theorem dX7_cell_9 : decode cX7_cell 9 = .ok (.invokestatic 122, 3) := by decide +kernel
theorem dX7_cell_12 : decode cX7_cell 12 = .ok (.ifCond .eq 17, 3) := by decide +kernel
theorem dX7_cell_15 : decode cX7_cell 15 = .ok (.iload 4, 2) := by decide +kernel
theorem dX7_cell_17 : decode cX7_cell 17 = .ok (.iconst (-1), 1) := by decide +kernel
theorem dX7_cell_18 : decode cX7_cell 18 = .ok (.if_icmp .lt 11, 3) := by decide +kernel
theorem dX7_cell_21 : decode cX7_cell 21 = .ok (.iload 5, 2) := by decide +kernel
theorem dX7_cell_23 : decode cX7_cell 23 = .ok (.invokestatic 158, 3) := by decide +kernel
theorem dX7_cell_26 : decode cX7_cell 26 = .ok (.ifCond .ne 7, 3) := by decide +kernel
theorem dX7_cell_29 : decode cX7_cell 29 = .ok (.sipush (-10001), 3) := by decide +kernel
theorem dX7_cell_32 : decode cX7_cell 32 = .ok (.ireturn, 1) := by decide +kernel
theorem dX7_cell_33 : decode cX7_cell 33 = .ok (.aload_n 0, 1) := by decide +kernel
theorem dX7_cell_34 : decode cX7_cell 34 = .ok (.iload_n 1, 1) := by decide +kernel
theorem dX7_cell_35 : decode cX7_cell 35 = .ok (.iload_n 2, 1) := by decide +kernel
theorem dX7_cell_36 : decode cX7_cell 36 = .ok (.iload_n 3, 1) := by decide +kernel
theorem dX7_cell_37 : decode cX7_cell 37 = .ok (.invokevirtual 126, 3) := by decide +kernel
theorem dX7_cell_40 : decode cX7_cell 40 = .ok (.astore 6, 2) := by decide +kernel
theorem dX7_cell_42 : decode cX7_cell 42 = .ok (.iload 4, 2) := by decide +kernel
theorem dX7_cell_44 : decode cX7_cell 44 = .ok (.iconst (-1), 1) := by decide +kernel
theorem dX7_cell_45 : decode cX7_cell 45 = .ok (.if_icmp .ne 13, 3) := by decide +kernel
theorem dX7_cell_48 : decode cX7_cell 48 = .ok (.aload 6, 2) := by decide +kernel
theorem dX7_cell_50 : decode cX7_cell 50 = .ok (.iload 5, 2) := by decide +kernel
theorem dX7_cell_52 : decode cX7_cell 52 = .ok (.invokevirtual 161, 3) := by decide +kernel
theorem dX7_cell_55 : decode cX7_cell 55 = .ok (.goto 12, 3) := by decide +kernel
theorem dX7_cell_58 : decode cX7_cell 58 = .ok (.aload 6, 2) := by decide +kernel
theorem dX7_cell_60 : decode cX7_cell 60 = .ok (.iload 4, 2) := by decide +kernel
theorem dX7_cell_62 : decode cX7_cell 62 = .ok (.iload 5, 2) := by decide +kernel
theorem dX7_cell_64 : decode cX7_cell 64 = .ok (.invokevirtual 164, 3) := by decide +kernel
theorem dX7_cell_67 : decode cX7_cell 67 = .ok (.ireturn, 1) := by decide +kernel
theorem dX7_pairs_0 : decode cX7_pairs 0 = .ok (.iload_n 1, 1) := by decide +kernel
theorem dX7_pairs_1 : decode cX7_pairs 1 = .ok (.iload_n 2, 1) := by decide +kernel
theorem dX7_pairs_2 : decode cX7_pairs 2 = .ok (.invokestatic 122, 3) := by decide +kernel
theorem dX7_pairs_5 : decode cX7_pairs 5 = .ok (.ifCond .eq 12, 3) := by decide +kernel
theorem dX7_pairs_8 : decode cX7_pairs 8 = .ok (.iload_n 3, 1) := by decide +kernel
theorem dX7_pairs_9 : decode cX7_pairs 9 = .ok (.iconst 0, 1) := by decide +kernel
theorem dX7_pairs_10 : decode cX7_pairs 10 = .ok (.iconst 3, 1) := by decide +kernel
theorem dX7_pairs_11 : decode cX7_pairs 11 = .ok (.invokestatic 59, 3) := by decide +kernel
theorem dX7_pairs_14 : decode cX7_pairs 14 = .ok (.ifCond .ne 7, 3) := by decide +kernel
theorem dX7_pairs_17 : decode cX7_pairs 17 = .ok (.sipush (-10001), 3) := by decide +kernel
theorem dX7_pairs_20 : decode cX7_pairs 20 = .ok (.ireturn, 1) := by decide +kernel
theorem dX7_pairs_21 : decode cX7_pairs 21 = .ok (.aload_n 0, 1) := by decide +kernel
theorem dX7_pairs_22 : decode cX7_pairs 22 = .ok (.getfield 42, 3) := by decide +kernel
theorem dX7_pairs_25 : decode cX7_pairs 25 = .ok (.aload_n 0, 1) := by decide +kernel
theorem dX7_pairs_26 : decode cX7_pairs 26 = .ok (.getfield 53, 3) := by decide +kernel
theorem dX7_pairs_29 : decode cX7_pairs 29 = .ok (.aload_n 0, 1) := by decide +kernel
theorem dX7_pairs_30 : decode cX7_pairs 30 = .ok (.getfield 56, 3) := by decide +kernel
theorem dX7_pairs_33 : decode cX7_pairs 33 = .ok (.iload_n 1, 1) := by decide +kernel
theorem dX7_pairs_34 : decode cX7_pairs 34 = .ok (.iload_n 2, 1) := by decide +kernel
theorem dX7_pairs_35 : decode cX7_pairs 35 = .ok (.invokevirtual 168, 3) := by decide +kernel
theorem dX7_pairs_38 : decode cX7_pairs 38 = .ok (.iload_n 3, 1) := by decide +kernel
theorem dX7_pairs_39 : decode cX7_pairs 39 = .ok (.tableswitch 49 0 2 #[25, 33, 41], 25) := by decide +kernel
theorem dX7_pairs_64 : decode cX7_pairs 64 = .ok (.aload_n 0, 1) := by decide +kernel
theorem dX7_pairs_65 : decode cX7_pairs 65 = .ok (.getfield 42, 3) := by decide +kernel
theorem dX7_pairs_68 : decode cX7_pairs 68 = .ok (.invokevirtual 172, 3) := by decide +kernel
theorem dX7_pairs_71 : decode cX7_pairs 71 = .ok (.ireturn, 1) := by decide +kernel
theorem dX7_pairs_72 : decode cX7_pairs 72 = .ok (.aload_n 0, 1) := by decide +kernel
theorem dX7_pairs_73 : decode cX7_pairs 73 = .ok (.getfield 42, 3) := by decide +kernel
theorem dX7_pairs_76 : decode cX7_pairs 76 = .ok (.invokevirtual 175, 3) := by decide +kernel
theorem dX7_pairs_79 : decode cX7_pairs 79 = .ok (.ireturn, 1) := by decide +kernel
theorem dX7_pairs_80 : decode cX7_pairs 80 = .ok (.aload_n 0, 1) := by decide +kernel
theorem dX7_pairs_81 : decode cX7_pairs 81 = .ok (.getfield 42, 3) := by decide +kernel
theorem dX7_pairs_84 : decode cX7_pairs 84 = .ok (.invokevirtual 178, 3) := by decide +kernel
theorem dX7_pairs_87 : decode cX7_pairs 87 = .ok (.ireturn, 1) := by decide +kernel
theorem dX7_pairs_88 : decode cX7_pairs 88 = .ok (.aload_n 0, 1) := by decide +kernel
theorem dX7_pairs_89 : decode cX7_pairs 89 = .ok (.getfield 42, 3) := by decide +kernel
theorem dX7_pairs_92 : decode cX7_pairs 92 = .ok (.invokevirtual 181, 3) := by decide +kernel
theorem dX7_pairs_95 : decode cX7_pairs 95 = .ok (.ireturn, 1) := by decide +kernel
theorem dX7_equal_0 : decode cX7_equal 0 = .ok (.iload_n 1, 1) := by decide +kernel
theorem dX7_equal_1 : decode cX7_equal 1 = .ok (.iload_n 2, 1) := by decide +kernel
theorem dX7_equal_2 : decode cX7_equal 2 = .ok (.invokestatic 122, 3) := by decide +kernel
theorem dX7_equal_5 : decode cX7_equal 5 = .ok (.ifCond .eq 10, 3) := by decide +kernel
theorem dX7_equal_8 : decode cX7_equal 8 = .ok (.iload_n 3, 1) := by decide +kernel
theorem dX7_equal_9 : decode cX7_equal 9 = .ok (.invokestatic 158, 3) := by decide +kernel
theorem dX7_equal_12 : decode cX7_equal 12 = .ok (.ifCond .ne 7, 3) := by decide +kernel
theorem dX7_equal_15 : decode cX7_equal 15 = .ok (.sipush (-10001), 3) := by decide +kernel
theorem dX7_equal_18 : decode cX7_equal 18 = .ok (.ireturn, 1) := by decide +kernel
theorem dX7_equal_19 : decode cX7_equal 19 = .ok (.aload_n 0, 1) := by decide +kernel
theorem dX7_equal_20 : decode cX7_equal 20 = .ok (.getfield 42, 3) := by decide +kernel
theorem dX7_equal_23 : decode cX7_equal 23 = .ok (.aload_n 0, 1) := by decide +kernel
theorem dX7_equal_24 : decode cX7_equal 24 = .ok (.getfield 53, 3) := by decide +kernel
theorem dX7_equal_27 : decode cX7_equal 27 = .ok (.aload_n 0, 1) := by decide +kernel
theorem dX7_equal_28 : decode cX7_equal 28 = .ok (.getfield 56, 3) := by decide +kernel
theorem dX7_equal_31 : decode cX7_equal 31 = .ok (.iload_n 1, 1) := by decide +kernel
theorem dX7_equal_32 : decode cX7_equal 32 = .ok (.iload_n 2, 1) := by decide +kernel
theorem dX7_equal_33 : decode cX7_equal 33 = .ok (.invokevirtual 168, 3) := by decide +kernel
theorem dX7_equal_36 : decode cX7_equal 36 = .ok (.aload_n 0, 1) := by decide +kernel
theorem dX7_equal_37 : decode cX7_equal 37 = .ok (.getfield 42, 3) := by decide +kernel
theorem dX7_equal_40 : decode cX7_equal 40 = .ok (.iload_n 3, 1) := by decide +kernel
theorem dX7_equal_41 : decode cX7_equal 41 = .ok (.invokevirtual 184, 3) := by decide +kernel
theorem dX7_equal_44 : decode cX7_equal 44 = .ok (.ireturn, 1) := by decide +kernel
theorem dX7_difference_0 : decode cX7_difference 0 = .ok (.iload_n 1, 1) := by decide +kernel
theorem dX7_difference_1 : decode cX7_difference 1 = .ok (.iload_n 2, 1) := by decide +kernel
theorem dX7_difference_2 : decode cX7_difference 2 = .ok (.invokestatic 122, 3) := by decide +kernel
theorem dX7_difference_5 : decode cX7_difference 5 = .ok (.ifCond .ne 7, 3) := by decide +kernel
theorem dX7_difference_8 : decode cX7_difference 8 = .ok (.sipush (-10001), 3) := by decide +kernel
theorem dX7_difference_11 : decode cX7_difference 11 = .ok (.ireturn, 1) := by decide +kernel
theorem dX7_difference_12 : decode cX7_difference 12 = .ok (.aload_n 0, 1) := by decide +kernel
theorem dX7_difference_13 : decode cX7_difference 13 = .ok (.getfield 42, 3) := by decide +kernel
theorem dX7_difference_16 : decode cX7_difference 16 = .ok (.aload_n 0, 1) := by decide +kernel
theorem dX7_difference_17 : decode cX7_difference 17 = .ok (.getfield 53, 3) := by decide +kernel
theorem dX7_difference_20 : decode cX7_difference 20 = .ok (.aload_n 0, 1) := by decide +kernel
theorem dX7_difference_21 : decode cX7_difference 21 = .ok (.getfield 56, 3) := by decide +kernel
theorem dX7_difference_24 : decode cX7_difference 24 = .ok (.iload_n 1, 1) := by decide +kernel
theorem dX7_difference_25 : decode cX7_difference 25 = .ok (.iload_n 2, 1) := by decide +kernel
theorem dX7_difference_26 : decode cX7_difference 26 = .ok (.invokevirtual 168, 3) := by decide +kernel
theorem dX7_difference_29 : decode cX7_difference 29 = .ok (.aload_n 0, 1) := by decide +kernel
theorem dX7_difference_30 : decode cX7_difference 30 = .ok (.getfield 42, 3) := by decide +kernel
theorem dX7_difference_33 : decode cX7_difference 33 = .ok (.getfield 187, 3) := by decide +kernel
theorem dX7_difference_36 : decode cX7_difference 36 = .ok (.getfield 135, 3) := by decide +kernel
theorem dX7_difference_39 : decode cX7_difference 39 = .ok (.aload_n 0, 1) := by decide +kernel
theorem dX7_difference_40 : decode cX7_difference 40 = .ok (.getfield 42, 3) := by decide +kernel
theorem dX7_difference_43 : decode cX7_difference 43 = .ok (.getfield 190, 3) := by decide +kernel
theorem dX7_difference_46 : decode cX7_difference 46 = .ok (.getfield 135, 3) := by decide +kernel
theorem dX7_difference_49 : decode cX7_difference 49 = .ok (.invokevirtual 192, 3) := by decide +kernel
theorem dX7_difference_52 : decode cX7_difference 52 = .ok (.ireturn, 1) := by decide +kernel
theorem dX7_agree_0 : decode cX7_agree 0 = .ok (.iload_n 1, 1) := by decide +kernel
theorem dX7_agree_1 : decode cX7_agree 1 = .ok (.bipush (-9), 2) := by decide +kernel
theorem dX7_agree_3 : decode cX7_agree 3 = .ok (.bipush 9, 2) := by decide +kernel
theorem dX7_agree_5 : decode cX7_agree 5 = .ok (.invokestatic 59, 3) := by decide +kernel
theorem dX7_agree_8 : decode cX7_agree 8 = .ok (.ifCond .eq 22, 3) := by decide +kernel
theorem dX7_agree_11 : decode cX7_agree 11 = .ok (.iload_n 2, 1) := by decide +kernel
theorem dX7_agree_12 : decode cX7_agree 12 = .ok (.iload_n 1, 1) := by decide +kernel
theorem dX7_agree_13 : decode cX7_agree 13 = .ok (.bipush 9, 2) := by decide +kernel
theorem dX7_agree_15 : decode cX7_agree 15 = .ok (.invokestatic 59, 3) := by decide +kernel
theorem dX7_agree_18 : decode cX7_agree 18 = .ok (.ifCond .eq 12, 3) := by decide +kernel
theorem dX7_agree_21 : decode cX7_agree 21 = .ok (.iload_n 3, 1) := by decide +kernel
theorem dX7_agree_22 : decode cX7_agree 22 = .ok (.iconst 0, 1) := by decide +kernel
theorem dX7_agree_23 : decode cX7_agree 23 = .ok (.iconst 2, 1) := by decide +kernel
theorem dX7_agree_24 : decode cX7_agree 24 = .ok (.invokestatic 59, 3) := by decide +kernel
theorem dX7_agree_27 : decode cX7_agree 27 = .ok (.ifCond .ne 7, 3) := by decide +kernel
theorem dX7_agree_30 : decode cX7_agree 30 = .ok (.sipush (-10001), 3) := by decide +kernel
theorem dX7_agree_33 : decode cX7_agree 33 = .ok (.ireturn, 1) := by decide +kernel
theorem dX7_agree_34 : decode cX7_agree 34 = .ok (.iconst 0, 1) := by decide +kernel
theorem dX7_agree_35 : decode cX7_agree 35 = .ok (.istore 4, 2) := by decide +kernel
theorem dX7_agree_37 : decode cX7_agree 37 = .ok (.iload_n 1, 1) := by decide +kernel
theorem dX7_agree_38 : decode cX7_agree 38 = .ok (.istore 5, 2) := by decide +kernel
theorem dX7_agree_40 : decode cX7_agree 40 = .ok (.iload 5, 2) := by decide +kernel
theorem dX7_agree_42 : decode cX7_agree 42 = .ok (.iload_n 2, 1) := by decide +kernel
theorem dX7_agree_43 : decode cX7_agree 43 = .ok (.if_icmp .gt 76, 3) := by decide +kernel
theorem dX7_agree_46 : decode cX7_agree 46 = .ok (.iload_n 1, 1) := by decide +kernel
theorem dX7_agree_47 : decode cX7_agree 47 = .ok (.istore 6, 2) := by decide +kernel
theorem dX7_agree_49 : decode cX7_agree 49 = .ok (.iload 6, 2) := by decide +kernel
theorem dX7_agree_51 : decode cX7_agree 51 = .ok (.iload_n 2, 1) := by decide +kernel
theorem dX7_agree_52 : decode cX7_agree 52 = .ok (.if_icmp .gt 61, 3) := by decide +kernel
theorem dX7_agree_55 : decode cX7_agree 55 = .ok (.aload_n 0, 1) := by decide +kernel
theorem dX7_agree_56 : decode cX7_agree 56 = .ok (.getfield 42, 3) := by decide +kernel
theorem dX7_agree_59 : decode cX7_agree 59 = .ok (.aload_n 0, 1) := by decide +kernel
theorem dX7_agree_60 : decode cX7_agree 60 = .ok (.getfield 53, 3) := by decide +kernel
theorem dX7_agree_63 : decode cX7_agree 63 = .ok (.aload_n 0, 1) := by decide +kernel
theorem dX7_agree_64 : decode cX7_agree 64 = .ok (.getfield 56, 3) := by decide +kernel
theorem dX7_agree_67 : decode cX7_agree 67 = .ok (.iload 5, 2) := by decide +kernel
theorem dX7_agree_69 : decode cX7_agree 69 = .ok (.iload 6, 2) := by decide +kernel
theorem dX7_agree_71 : decode cX7_agree 71 = .ok (.invokevirtual 168, 3) := by decide +kernel
theorem dX7_agree_74 : decode cX7_agree 74 = .ok (.aload_n 0, 1) := by decide +kernel
theorem dX7_agree_75 : decode cX7_agree 75 = .ok (.getfield 42, 3) := by decide +kernel
theorem dX7_agree_78 : decode cX7_agree 78 = .ok (.invokevirtual 196, 3) := by decide +kernel
theorem dX7_agree_81 : decode cX7_agree 81 = .ok (.ifCond .eq 9, 3) := by decide +kernel
theorem dX7_agree_84 : decode cX7_agree 84 = .ok (.iinc 4 1, 3) := by decide +kernel
theorem dX7_agree_87 : decode cX7_agree 87 = .ok (.goto 20, 3) := by decide +kernel
theorem dX7_agree_90 : decode cX7_agree 90 = .ok (.iload_n 3, 1) := by decide +kernel
theorem dX7_agree_91 : decode cX7_agree 91 = .ok (.ifCond .eq 16, 3) := by decide +kernel
theorem dX7_agree_94 : decode cX7_agree 94 = .ok (.iload_n 3, 1) := by decide +kernel
theorem dX7_agree_95 : decode cX7_agree 95 = .ok (.iconst 1, 1) := by decide +kernel
theorem dX7_agree_96 : decode cX7_agree 96 = .ok (.if_icmp .ne 8, 3) := by decide +kernel
theorem dX7_agree_99 : decode cX7_agree 99 = .ok (.iload 5, 2) := by decide +kernel
theorem dX7_agree_101 : decode cX7_agree 101 = .ok (.goto 5, 3) := by decide +kernel
theorem dX7_agree_104 : decode cX7_agree 104 = .ok (.iload 6, 2) := by decide +kernel
theorem dX7_agree_106 : decode cX7_agree 106 = .ok (.ireturn, 1) := by decide +kernel
theorem dX7_agree_107 : decode cX7_agree 107 = .ok (.iinc 6 1, 3) := by decide +kernel
theorem dX7_agree_110 : decode cX7_agree 110 = .ok (.goto (-61), 3) := by decide +kernel
theorem dX7_agree_113 : decode cX7_agree 113 = .ok (.iinc 5 1, 3) := by decide +kernel
theorem dX7_agree_116 : decode cX7_agree 116 = .ok (.goto (-76), 3) := by decide +kernel
theorem dX7_agree_119 : decode cX7_agree 119 = .ok (.iload_n 3, 1) := by decide +kernel
theorem dX7_agree_120 : decode cX7_agree 120 = .ok (.ifCond .ne 8, 3) := by decide +kernel
theorem dX7_agree_123 : decode cX7_agree 123 = .ok (.iload 4, 2) := by decide +kernel
theorem dX7_agree_125 : decode cX7_agree 125 = .ok (.goto 6, 3) := by decide +kernel
theorem dX7_agree_128 : decode cX7_agree 128 = .ok (.sipush (-10009), 3) := by decide +kernel
theorem dX7_agree_131 : decode cX7_agree 131 = .ok (.ireturn, 1) := by decide +kernel
theorem dX7_listingOf_0 : decode cX7_listingOf 0 = .ok (.iload_n 1, 1) := by decide +kernel
theorem dX7_listingOf_1 : decode cX7_listingOf 1 = .ok (.ifCond .ne 10, 3) := by decide +kernel
theorem dX7_listingOf_4 : decode cX7_listingOf 4 = .ok (.aload_n 0, 1) := by decide +kernel
theorem dX7_listingOf_5 : decode cX7_listingOf 5 = .ok (.getfield 53, 3) := by decide +kernel
theorem dX7_listingOf_8 : decode cX7_listingOf 8 = .ok (.goto 7, 3) := by decide +kernel
theorem dX7_listingOf_11 : decode cX7_listingOf 11 = .ok (.aload_n 0, 1) := by decide +kernel
theorem dX7_listingOf_12 : decode cX7_listingOf 12 = .ok (.getfield 56, 3) := by decide +kernel
theorem dX7_listingOf_15 : decode cX7_listingOf 15 = .ok (.areturn, 1) := by decide +kernel
theorem dX7_traceOf_0 : decode cX7_traceOf 0 = .ok (.aload_n 0, 1) := by decide +kernel
theorem dX7_traceOf_1 : decode cX7_traceOf 1 = .ok (.getfield 42, 3) := by decide +kernel
theorem dX7_traceOf_4 : decode cX7_traceOf 4 = .ok (.getfield 187, 3) := by decide +kernel
theorem dX7_traceOf_7 : decode cX7_traceOf 7 = .ok (.aload_n 0, 1) := by decide +kernel
theorem dX7_traceOf_8 : decode cX7_traceOf 8 = .ok (.iload_n 1, 1) := by decide +kernel
theorem dX7_traceOf_9 : decode cX7_traceOf 9 = .ok (.invokevirtual 89, 3) := by decide +kernel
theorem dX7_traceOf_12 : decode cX7_traceOf 12 = .ok (.iload_n 2, 1) := by decide +kernel
theorem dX7_traceOf_13 : decode cX7_traceOf 13 = .ok (.iload_n 3, 1) := by decide +kernel
theorem dX7_traceOf_14 : decode cX7_traceOf 14 = .ok (.invokevirtual 212, 3) := by decide +kernel
theorem dX7_traceOf_17 : decode cX7_traceOf 17 = .ok (.aload_n 0, 1) := by decide +kernel
theorem dX7_traceOf_18 : decode cX7_traceOf 18 = .ok (.getfield 42, 3) := by decide +kernel
theorem dX7_traceOf_21 : decode cX7_traceOf 21 = .ok (.getfield 187, 3) := by decide +kernel
theorem dX7_traceOf_24 : decode cX7_traceOf 24 = .ok (.areturn, 1) := by decide +kernel
theorem dX7_isWithin_0 : decode cX7_isWithin 0 = .ok (.iload_n 0, 1) := by decide +kernel
theorem dX7_isWithin_1 : decode cX7_isWithin 1 = .ok (.iload_n 1, 1) := by decide +kernel
theorem dX7_isWithin_2 : decode cX7_isWithin 2 = .ok (.if_icmp .lt 12, 3) := by decide +kernel
theorem dX7_isWithin_5 : decode cX7_isWithin 5 = .ok (.iload_n 0, 1) := by decide +kernel
theorem dX7_isWithin_6 : decode cX7_isWithin 6 = .ok (.iload_n 2, 1) := by decide +kernel
theorem dX7_isWithin_7 : decode cX7_isWithin 7 = .ok (.if_icmp .gt 7, 3) := by decide +kernel
theorem dX7_isWithin_10 : decode cX7_isWithin 10 = .ok (.iconst 1, 1) := by decide +kernel
theorem dX7_isWithin_11 : decode cX7_isWithin 11 = .ok (.goto 4, 3) := by decide +kernel
theorem dX7_isWithin_14 : decode cX7_isWithin 14 = .ok (.iconst 0, 1) := by decide +kernel
theorem dX7_isWithin_15 : decode cX7_isWithin 15 = .ok (.ireturn, 1) := by decide +kernel
theorem dX7_isProgram_0 : decode cX7_isProgram 0 = .ok (.iload_n 0, 1) := by decide +kernel
theorem dX7_isProgram_1 : decode cX7_isProgram 1 = .ok (.iconst 0, 1) := by decide +kernel
theorem dX7_isProgram_2 : decode cX7_isProgram 2 = .ok (.iconst 1, 1) := by decide +kernel
theorem dX7_isProgram_3 : decode cX7_isProgram 3 = .ok (.invokestatic 59, 3) := by decide +kernel
theorem dX7_isProgram_6 : decode cX7_isProgram 6 = .ok (.ireturn, 1) := by decide +kernel
theorem dX7_isCell_0 : decode cX7_isCell 0 = .ok (.iload_n 0, 1) := by decide +kernel
theorem dX7_isCell_1 : decode cX7_isCell 1 = .ok (.iconst 0, 1) := by decide +kernel
theorem dX7_isCell_2 : decode cX7_isCell 2 = .ok (.iconst 5, 1) := by decide +kernel
theorem dX7_isCell_3 : decode cX7_isCell 3 = .ok (.invokestatic 59, 3) := by decide +kernel
theorem dX7_isCell_6 : decode cX7_isCell 6 = .ok (.ireturn, 1) := by decide +kernel
theorem dX7_isInput_0 : decode cX7_isInput 0 = .ok (.iload_n 0, 1) := by decide +kernel
theorem dX7_isInput_1 : decode cX7_isInput 1 = .ok (.sipush (-999), 3) := by decide +kernel
theorem dX7_isInput_4 : decode cX7_isInput 4 = .ok (.sipush 999, 3) := by decide +kernel
theorem dX7_isInput_7 : decode cX7_isInput 7 = .ok (.invokestatic 59, 3) := by decide +kernel
theorem dX7_isInput_10 : decode cX7_isInput 10 = .ok (.ifCond .eq 20, 3) := by decide +kernel
theorem dX7_isInput_13 : decode cX7_isInput 13 = .ok (.iload_n 1, 1) := by decide +kernel
theorem dX7_isInput_14 : decode cX7_isInput 14 = .ok (.sipush (-999), 3) := by decide +kernel
theorem dX7_isInput_17 : decode cX7_isInput 17 = .ok (.sipush 999, 3) := by decide +kernel
theorem dX7_isInput_20 : decode cX7_isInput 20 = .ok (.invokestatic 59, 3) := by decide +kernel
theorem dX7_isInput_23 : decode cX7_isInput 23 = .ok (.ifCond .eq 7, 3) := by decide +kernel
theorem dX7_isInput_26 : decode cX7_isInput 26 = .ok (.iconst 1, 1) := by decide +kernel
theorem dX7_isInput_27 : decode cX7_isInput 27 = .ok (.goto 4, 3) := by decide +kernel
theorem dX7_isInput_30 : decode cX7_isInput 30 = .ok (.iconst 0, 1) := by decide +kernel
theorem dX7_isInput_31 : decode cX7_isInput 31 = .ok (.ireturn, 1) := by decide +kernel
theorem dL_cell_0 : decode cL_cell 0 = .ok (.iload_n 1, 1) := by decide +kernel
theorem dL_cell_1 : decode cL_cell 1 = .ok (.aload_n 0, 1) := by decide +kernel
theorem dL_cell_2 : decode cL_cell 2 = .ok (.arraylength, 1) := by decide +kernel
theorem dL_cell_3 : decode cL_cell 3 = .ok (.if_icmp .ge 9, 3) := by decide +kernel
theorem dL_cell_6 : decode cL_cell 6 = .ok (.aload_n 0, 1) := by decide +kernel
theorem dL_cell_7 : decode cL_cell 7 = .ok (.iload_n 1, 1) := by decide +kernel
theorem dL_cell_8 : decode cL_cell 8 = .ok (.iaload, 1) := by decide +kernel
theorem dL_cell_9 : decode cL_cell 9 = .ok (.goto 9, 3) := by decide +kernel
theorem dL_cell_12 : decode cL_cell 12 = .ok (.ldc 7, 2) := by decide +kernel
theorem dL_cell_14 : decode cL_cell 14 = .ok (.iload_n 1, 1) := by decide +kernel
theorem dL_cell_15 : decode cL_cell 15 = .ok (.iconst 1, 1) := by decide +kernel
theorem dL_cell_16 : decode cL_cell 16 = .ok (.iadd, 1) := by decide +kernel
theorem dL_cell_17 : decode cL_cell 17 = .ok (.imul, 1) := by decide +kernel
theorem dL_cell_18 : decode cL_cell 18 = .ok (.ireturn, 1) := by decide +kernel
theorem dL_low_0 : decode cL_low 0 = .ok (.iload_n 0, 1) := by decide +kernel
theorem dL_low_1 : decode cL_low 1 = .ok (.ldc 8, 2) := by decide +kernel
theorem dL_low_3 : decode cL_low 3 = .ok (.iand, 1) := by decide +kernel
theorem dL_low_4 : decode cL_low 4 = .ok (.iload_n 1, 1) := by decide +kernel
theorem dL_low_5 : decode cL_low 5 = .ok (.irem, 1) := by decide +kernel
theorem dL_low_6 : decode cL_low 6 = .ok (.ireturn, 1) := by decide +kernel
theorem dL_near_0 : decode cL_near 0 = .ok (.iload_n 0, 1) := by decide +kernel
theorem dL_near_1 : decode cL_near 1 = .ok (.bipush 40, 2) := by decide +kernel
theorem dL_near_3 : decode cL_near 3 = .ok (.invokestatic 9, 3) := by decide +kernel
theorem dL_near_6 : decode cL_near 6 = .ok (.istore_n 2, 1) := by decide +kernel
theorem dL_near_7 : decode cL_near 7 = .ok (.iload_n 2, 1) := by decide +kernel
theorem dL_near_8 : decode cL_near 8 = .ok (.ifCond .ne 7, 3) := by decide +kernel
theorem dL_near_11 : decode cL_near 11 = .ok (.iconst (-1), 1) := by decide +kernel
theorem dL_near_12 : decode cL_near 12 = .ok (.goto 38, 3) := by decide +kernel
theorem dL_near_15 : decode cL_near 15 = .ok (.iload_n 2, 1) := by decide +kernel
theorem dL_near_16 : decode cL_near 16 = .ok (.iconst 1, 1) := by decide +kernel
theorem dL_near_17 : decode cL_near 17 = .ok (.if_icmp .ne 7, 3) := by decide +kernel
theorem dL_near_20 : decode cL_near 20 = .ok (.iload_n 1, 1) := by decide +kernel
theorem dL_near_21 : decode cL_near 21 = .ok (.goto 29, 3) := by decide +kernel
theorem dL_near_24 : decode cL_near 24 = .ok (.iload_n 2, 1) := by decide +kernel
theorem dL_near_25 : decode cL_near 25 = .ok (.iconst 2, 1) := by decide +kernel
theorem dL_near_26 : decode cL_near 26 = .ok (.if_icmp .ne 7, 3) := by decide +kernel
theorem dL_near_29 : decode cL_near 29 = .ok (.iload_n 0, 1) := by decide +kernel
theorem dL_near_30 : decode cL_near 30 = .ok (.goto 20, 3) := by decide +kernel
theorem dL_near_33 : decode cL_near 33 = .ok (.iload_n 1, 1) := by decide +kernel
theorem dL_near_34 : decode cL_near 34 = .ok (.iconst 1, 1) := by decide +kernel
theorem dL_near_35 : decode cL_near 35 = .ok (.if_icmp .ge 7, 3) := by decide +kernel
theorem dL_near_38 : decode cL_near 38 = .ok (.iconst 0, 1) := by decide +kernel
theorem dL_near_39 : decode cL_near 39 = .ok (.goto 11, 3) := by decide +kernel
theorem dL_near_42 : decode cL_near 42 = .ok (.iload_n 0, 1) := by decide +kernel
theorem dL_near_43 : decode cL_near 43 = .ok (.bipush 6, 2) := by decide +kernel
theorem dL_near_45 : decode cL_near 45 = .ok (.ishr, 1) := by decide +kernel
theorem dL_near_46 : decode cL_near 46 = .ok (.iload_n 1, 1) := by decide +kernel
theorem dL_near_47 : decode cL_near 47 = .ok (.invokestatic 9, 3) := by decide +kernel
theorem dL_near_50 : decode cL_near 50 = .ok (.ireturn, 1) := by decide +kernel
theorem dL_trace_0 : decode cL_trace 0 = .ok (.ldc2_w 15, 3) := by decide +kernel
theorem dL_trace_3 : decode cL_trace 3 = .ok (.lstore_n 1, 1) := by decide +kernel
theorem dL_trace_4 : decode cL_trace 4 = .ok (.iconst 0, 1) := by decide +kernel
theorem dL_trace_5 : decode cL_trace 5 = .ok (.istore_n 3, 1) := by decide +kernel
theorem dL_trace_6 : decode cL_trace 6 = .ok (.iload_n 3, 1) := by decide +kernel
theorem dL_trace_7 : decode cL_trace 7 = .ok (.iconst 3, 1) := by decide +kernel
theorem dL_trace_8 : decode cL_trace 8 = .ok (.if_icmp .ge 22, 3) := by decide +kernel
theorem dL_trace_11 : decode cL_trace 11 = .ok (.ldc2_w 17, 3) := by decide +kernel
theorem dL_trace_14 : decode cL_trace 14 = .ok (.lload_n 1, 1) := by decide +kernel
theorem dL_trace_15 : decode cL_trace 15 = .ok (.lmul, 1) := by decide +kernel
theorem dL_trace_16 : decode cL_trace 16 = .ok (.aload_n 0, 1) := by decide +kernel
theorem dL_trace_17 : decode cL_trace 17 = .ok (.iload_n 3, 1) := by decide +kernel
theorem dL_trace_18 : decode cL_trace 18 = .ok (.invokevirtual 19, 3) := by decide +kernel
theorem dL_trace_21 : decode cL_trace 21 = .ok (.i2l, 1) := by decide +kernel
theorem dL_trace_22 : decode cL_trace 22 = .ok (.ladd, 1) := by decide +kernel
theorem dL_trace_23 : decode cL_trace 23 = .ok (.lstore_n 1, 1) := by decide +kernel
theorem dL_trace_24 : decode cL_trace 24 = .ok (.iinc 3 1, 3) := by decide +kernel
theorem dL_trace_27 : decode cL_trace 27 = .ok (.goto (-21), 3) := by decide +kernel
theorem dL_trace_30 : decode cL_trace 30 = .ok (.iconst 0, 1) := by decide +kernel
theorem dL_trace_31 : decode cL_trace 31 = .ok (.istore_n 3, 1) := by decide +kernel
theorem dL_trace_32 : decode cL_trace 32 = .ok (.iload_n 3, 1) := by decide +kernel
theorem dL_trace_33 : decode cL_trace 33 = .ok (.iconst 2, 1) := by decide +kernel
theorem dL_trace_34 : decode cL_trace 34 = .ok (.if_icmp .ge 130, 3) := by decide +kernel
theorem dL_trace_37 : decode cL_trace 37 = .ok (.iconst 0, 1) := by decide +kernel
theorem dL_trace_38 : decode cL_trace 38 = .ok (.istore 4, 2) := by decide +kernel
theorem dL_trace_40 : decode cL_trace 40 = .ok (.iload 4, 2) := by decide +kernel
theorem dL_trace_42 : decode cL_trace 42 = .ok (.bipush 8, 2) := by decide +kernel
theorem dL_trace_44 : decode cL_trace 44 = .ok (.if_icmp .ge 24, 3) := by decide +kernel
theorem dL_trace_47 : decode cL_trace 47 = .ok (.ldc2_w 17, 3) := by decide +kernel
theorem dL_trace_50 : decode cL_trace 50 = .ok (.lload_n 1, 1) := by decide +kernel
theorem dL_trace_51 : decode cL_trace 51 = .ok (.lmul, 1) := by decide +kernel
theorem dL_trace_52 : decode cL_trace 52 = .ok (.aload_n 0, 1) := by decide +kernel
theorem dL_trace_53 : decode cL_trace 53 = .ok (.iload_n 3, 1) := by decide +kernel
theorem dL_trace_54 : decode cL_trace 54 = .ok (.iload 4, 2) := by decide +kernel
theorem dL_trace_56 : decode cL_trace 56 = .ok (.invokevirtual 25, 3) := by decide +kernel
theorem dL_trace_59 : decode cL_trace 59 = .ok (.i2l, 1) := by decide +kernel
theorem dL_trace_60 : decode cL_trace 60 = .ok (.ladd, 1) := by decide +kernel
theorem dL_trace_61 : decode cL_trace 61 = .ok (.lstore_n 1, 1) := by decide +kernel
theorem dL_trace_62 : decode cL_trace 62 = .ok (.iinc 4 1, 3) := by decide +kernel
theorem dL_trace_65 : decode cL_trace 65 = .ok (.goto (-25), 3) := by decide +kernel
theorem dL_trace_68 : decode cL_trace 68 = .ok (.iconst 0, 1) := by decide +kernel
theorem dL_trace_69 : decode cL_trace 69 = .ok (.istore 4, 2) := by decide +kernel
theorem dL_trace_71 : decode cL_trace 71 = .ok (.iload 4, 2) := by decide +kernel
theorem dL_trace_73 : decode cL_trace 73 = .ok (.iconst 4, 1) := by decide +kernel
theorem dL_trace_74 : decode cL_trace 74 = .ok (.if_icmp .ge 84, 3) := by decide +kernel
theorem dL_trace_77 : decode cL_trace 77 = .ok (.iconst 0, 1) := by decide +kernel
theorem dL_trace_78 : decode cL_trace 78 = .ok (.istore 5, 2) := by decide +kernel
theorem dL_trace_80 : decode cL_trace 80 = .ok (.iload 5, 2) := by decide +kernel
theorem dL_trace_82 : decode cL_trace 82 = .ok (.bipush 6, 2) := by decide +kernel
theorem dL_trace_84 : decode cL_trace 84 = .ok (.if_icmp .ge 30, 3) := by decide +kernel
theorem dL_trace_87 : decode cL_trace 87 = .ok (.ldc2_w 17, 3) := by decide +kernel
theorem dL_trace_90 : decode cL_trace 90 = .ok (.lload_n 1, 1) := by decide +kernel
theorem dL_trace_91 : decode cL_trace 91 = .ok (.lmul, 1) := by decide +kernel
theorem dL_trace_92 : decode cL_trace 92 = .ok (.aload_n 0, 1) := by decide +kernel
theorem dL_trace_93 : decode cL_trace 93 = .ok (.iload_n 3, 1) := by decide +kernel
theorem dL_trace_94 : decode cL_trace 94 = .ok (.iload 4, 2) := by decide +kernel
theorem dL_trace_96 : decode cL_trace 96 = .ok (.iconst 3, 1) := by decide +kernel
theorem dL_trace_97 : decode cL_trace 97 = .ok (.iload 4, 2) := by decide +kernel
theorem dL_trace_99 : decode cL_trace 99 = .ok (.isub, 1) := by decide +kernel
theorem dL_trace_100 : decode cL_trace 100 = .ok (.iload 5, 2) := by decide +kernel
theorem dL_trace_102 : decode cL_trace 102 = .ok (.invokevirtual 28, 3) := by decide +kernel
theorem dL_trace_105 : decode cL_trace 105 = .ok (.i2l, 1) := by decide +kernel
theorem dL_trace_106 : decode cL_trace 106 = .ok (.ladd, 1) := by decide +kernel
theorem dL_trace_107 : decode cL_trace 107 = .ok (.lstore_n 1, 1) := by decide +kernel
theorem dL_trace_108 : decode cL_trace 108 = .ok (.iinc 5 1, 3) := by decide +kernel
theorem dL_trace_111 : decode cL_trace 111 = .ok (.goto (-31), 3) := by decide +kernel
theorem dL_trace_114 : decode cL_trace 114 = .ok (.iconst 0, 1) := by decide +kernel
theorem dL_trace_115 : decode cL_trace 115 = .ok (.istore 5, 2) := by decide +kernel
theorem dL_trace_117 : decode cL_trace 117 = .ok (.iload 5, 2) := by decide +kernel
theorem dL_trace_119 : decode cL_trace 119 = .ok (.bipush 6, 2) := by decide +kernel
theorem dL_trace_121 : decode cL_trace 121 = .ok (.if_icmp .ge 31, 3) := by decide +kernel
theorem dL_trace_124 : decode cL_trace 124 = .ok (.ldc2_w 17, 3) := by decide +kernel
theorem dL_trace_127 : decode cL_trace 127 = .ok (.lload_n 1, 1) := by decide +kernel
theorem dL_trace_128 : decode cL_trace 128 = .ok (.lmul, 1) := by decide +kernel
theorem dL_trace_129 : decode cL_trace 129 = .ok (.aload_n 0, 1) := by decide +kernel
theorem dL_trace_130 : decode cL_trace 130 = .ok (.iload_n 3, 1) := by decide +kernel
theorem dL_trace_131 : decode cL_trace 131 = .ok (.iload 4, 2) := by decide +kernel
theorem dL_trace_133 : decode cL_trace 133 = .ok (.iconst 3, 1) := by decide +kernel
theorem dL_trace_134 : decode cL_trace 134 = .ok (.iload 4, 2) := by decide +kernel
theorem dL_trace_136 : decode cL_trace 136 = .ok (.isub, 1) := by decide +kernel
theorem dL_trace_137 : decode cL_trace 137 = .ok (.iconst (-1), 1) := by decide +kernel
theorem dL_trace_138 : decode cL_trace 138 = .ok (.iload 5, 2) := by decide +kernel
theorem dL_trace_140 : decode cL_trace 140 = .ok (.invokevirtual 32, 3) := by decide +kernel
theorem dL_trace_143 : decode cL_trace 143 = .ok (.i2l, 1) := by decide +kernel
theorem dL_trace_144 : decode cL_trace 144 = .ok (.ladd, 1) := by decide +kernel
theorem dL_trace_145 : decode cL_trace 145 = .ok (.lstore_n 1, 1) := by decide +kernel
theorem dL_trace_146 : decode cL_trace 146 = .ok (.iinc 5 1, 3) := by decide +kernel
theorem dL_trace_149 : decode cL_trace 149 = .ok (.goto (-32), 3) := by decide +kernel
theorem dL_trace_152 : decode cL_trace 152 = .ok (.iinc 4 1, 3) := by decide +kernel
theorem dL_trace_155 : decode cL_trace 155 = .ok (.goto (-84), 3) := by decide +kernel
theorem dL_trace_158 : decode cL_trace 158 = .ok (.iinc 3 1, 3) := by decide +kernel
theorem dL_trace_161 : decode cL_trace 161 = .ok (.goto (-129), 3) := by decide +kernel
theorem dL_trace_164 : decode cL_trace 164 = .ok (.lload_n 1, 1) := by decide +kernel
theorem dL_trace_165 : decode cL_trace 165 = .ok (.lreturn, 1) := by decide +kernel
theorem dL_programFits_0 : decode cL_programFits 0 = .ok (.iconst 0, 1) := by decide +kernel
theorem dL_programFits_1 : decode cL_programFits 1 = .ok (.istore_n 2, 1) := by decide +kernel
theorem dL_programFits_2 : decode cL_programFits 2 = .ok (.iconst 1, 1) := by decide +kernel
theorem dL_programFits_3 : decode cL_programFits 3 = .ok (.istore_n 3, 1) := by decide +kernel
theorem dL_programFits_4 : decode cL_programFits 4 = .ok (.iload_n 3, 1) := by decide +kernel
theorem dL_programFits_5 : decode cL_programFits 5 = .ok (.bipush 6, 2) := by decide +kernel
theorem dL_programFits_7 : decode cL_programFits 7 = .ok (.if_icmp .ge 18, 3) := by decide +kernel
theorem dL_programFits_10 : decode cL_programFits 10 = .ok (.iload_n 2, 1) := by decide +kernel
theorem dL_programFits_11 : decode cL_programFits 11 = .ok (.aload_n 0, 1) := by decide +kernel
theorem dL_programFits_12 : decode cL_programFits 12 = .ok (.iload_n 1, 1) := by decide +kernel
theorem dL_programFits_13 : decode cL_programFits 13 = .ok (.iload_n 3, 1) := by decide +kernel
theorem dL_programFits_14 : decode cL_programFits 14 = .ok (.invokevirtual 25, 3) := by decide +kernel
theorem dL_programFits_17 : decode cL_programFits 17 = .ok (.iadd, 1) := by decide +kernel
theorem dL_programFits_18 : decode cL_programFits 18 = .ok (.istore_n 2, 1) := by decide +kernel
theorem dL_programFits_19 : decode cL_programFits 19 = .ok (.iinc 3 1, 3) := by decide +kernel
theorem dL_programFits_22 : decode cL_programFits 22 = .ok (.goto (-18), 3) := by decide +kernel
theorem dL_programFits_25 : decode cL_programFits 25 = .ok (.aload_n 0, 1) := by decide +kernel
theorem dL_programFits_26 : decode cL_programFits 26 = .ok (.iload_n 1, 1) := by decide +kernel
theorem dL_programFits_27 : decode cL_programFits 27 = .ok (.iconst 4, 1) := by decide +kernel
theorem dL_programFits_28 : decode cL_programFits 28 = .ok (.invokevirtual 25, 3) := by decide +kernel
theorem dL_programFits_31 : decode cL_programFits 31 = .ok (.aload_n 0, 1) := by decide +kernel
theorem dL_programFits_32 : decode cL_programFits 32 = .ok (.iload_n 1, 1) := by decide +kernel
theorem dL_programFits_33 : decode cL_programFits 33 = .ok (.iconst 5, 1) := by decide +kernel
theorem dL_programFits_34 : decode cL_programFits 34 = .ok (.invokevirtual 25, 3) := by decide +kernel
theorem dL_programFits_37 : decode cL_programFits 37 = .ok (.iadd, 1) := by decide +kernel
theorem dL_programFits_38 : decode cL_programFits 38 = .ok (.istore_n 3, 1) := by decide +kernel
theorem dL_programFits_39 : decode cL_programFits 39 = .ok (.aload_n 0, 1) := by decide +kernel
theorem dL_programFits_40 : decode cL_programFits 40 = .ok (.iload_n 1, 1) := by decide +kernel
theorem dL_programFits_41 : decode cL_programFits 41 = .ok (.bipush 6, 2) := by decide +kernel
theorem dL_programFits_43 : decode cL_programFits 43 = .ok (.invokevirtual 25, 3) := by decide +kernel
theorem dL_programFits_46 : decode cL_programFits 46 = .ok (.istore 4, 2) := by decide +kernel
theorem dL_programFits_48 : decode cL_programFits 48 = .ok (.aload_n 0, 1) := by decide +kernel
theorem dL_programFits_49 : decode cL_programFits 49 = .ok (.iload_n 1, 1) := by decide +kernel
theorem dL_programFits_50 : decode cL_programFits 50 = .ok (.invokevirtual 19, 3) := by decide +kernel
theorem dL_programFits_53 : decode cL_programFits 53 = .ok (.iload_n 2, 1) := by decide +kernel
theorem dL_programFits_54 : decode cL_programFits 54 = .ok (.if_icmp .ne 102, 3) := by decide +kernel
theorem dL_programFits_57 : decode cL_programFits 57 = .ok (.aload_n 0, 1) := by decide +kernel
theorem dL_programFits_58 : decode cL_programFits 58 = .ok (.iload_n 1, 1) := by decide +kernel
theorem dL_programFits_59 : decode cL_programFits 59 = .ok (.iconst 0, 1) := by decide +kernel
theorem dL_programFits_60 : decode cL_programFits 60 = .ok (.invokevirtual 25, 3) := by decide +kernel
theorem dL_programFits_63 : decode cL_programFits 63 = .ok (.iload_n 2, 1) := by decide +kernel
theorem dL_programFits_64 : decode cL_programFits 64 = .ok (.if_icmp .ne 92, 3) := by decide +kernel
theorem dL_programFits_67 : decode cL_programFits 67 = .ok (.iload_n 2, 1) := by decide +kernel
theorem dL_programFits_68 : decode cL_programFits 68 = .ok (.bipush 60, 2) := by decide +kernel
theorem dL_programFits_70 : decode cL_programFits 70 = .ok (.if_icmp .gt 86, 3) := by decide +kernel
theorem dL_programFits_73 : decode cL_programFits 73 = .ok (.iload 4, 2) := by decide +kernel
theorem dL_programFits_75 : decode cL_programFits 75 = .ok (.iconst 5, 1) := by decide +kernel
theorem dL_programFits_76 : decode cL_programFits 76 = .ok (.if_icmp .gt 80, 3) := by decide +kernel
theorem dL_programFits_79 : decode cL_programFits 79 = .ok (.iload 4, 2) := by decide +kernel
theorem dL_programFits_81 : decode cL_programFits 81 = .ok (.iload_n 3, 1) := by decide +kernel
theorem dL_programFits_82 : decode cL_programFits 82 = .ok (.if_icmp .gt 74, 3) := by decide +kernel
theorem dL_programFits_85 : decode cL_programFits 85 = .ok (.iload 4, 2) := by decide +kernel
theorem dL_programFits_87 : decode cL_programFits 87 = .ok (.ifCond .ne 7, 3) := by decide +kernel
theorem dL_programFits_90 : decode cL_programFits 90 = .ok (.iconst 1, 1) := by decide +kernel
theorem dL_programFits_91 : decode cL_programFits 91 = .ok (.goto 4, 3) := by decide +kernel
theorem dL_programFits_94 : decode cL_programFits 94 = .ok (.iconst 0, 1) := by decide +kernel
theorem dL_programFits_95 : decode cL_programFits 95 = .ok (.iload_n 3, 1) := by decide +kernel
theorem dL_programFits_96 : decode cL_programFits 96 = .ok (.ifCond .ne 7, 3) := by decide +kernel
theorem dL_programFits_99 : decode cL_programFits 99 = .ok (.iconst 1, 1) := by decide +kernel
theorem dL_programFits_100 : decode cL_programFits 100 = .ok (.goto 4, 3) := by decide +kernel
theorem dL_programFits_103 : decode cL_programFits 103 = .ok (.iconst 0, 1) := by decide +kernel
theorem dL_programFits_104 : decode cL_programFits 104 = .ok (.if_icmp .ne 52, 3) := by decide +kernel
theorem dL_programFits_107 : decode cL_programFits 107 = .ok (.aload_n 0, 1) := by decide +kernel
theorem dL_programFits_108 : decode cL_programFits 108 = .ok (.iload_n 1, 1) := by decide +kernel
theorem dL_programFits_109 : decode cL_programFits 109 = .ok (.bipush 7, 2) := by decide +kernel
theorem dL_programFits_111 : decode cL_programFits 111 = .ok (.invokevirtual 25, 3) := by decide +kernel
theorem dL_programFits_114 : decode cL_programFits 114 = .ok (.ifCond .ne 7, 3) := by decide +kernel
theorem dL_programFits_117 : decode cL_programFits 117 = .ok (.iconst 1, 1) := by decide +kernel
theorem dL_programFits_118 : decode cL_programFits 118 = .ok (.goto 4, 3) := by decide +kernel
theorem dL_programFits_121 : decode cL_programFits 121 = .ok (.iconst 0, 1) := by decide +kernel
theorem dL_programFits_122 : decode cL_programFits 122 = .ok (.aload_n 0, 1) := by decide +kernel
theorem dL_programFits_123 : decode cL_programFits 123 = .ok (.iload_n 1, 1) := by decide +kernel
theorem dL_programFits_124 : decode cL_programFits 124 = .ok (.iconst 1, 1) := by decide +kernel
theorem dL_programFits_125 : decode cL_programFits 125 = .ok (.invokevirtual 25, 3) := by decide +kernel
theorem dL_programFits_128 : decode cL_programFits 128 = .ok (.ifCond .ne 7, 3) := by decide +kernel
theorem dL_programFits_131 : decode cL_programFits 131 = .ok (.iconst 1, 1) := by decide +kernel
theorem dL_programFits_132 : decode cL_programFits 132 = .ok (.goto 4, 3) := by decide +kernel
theorem dL_programFits_135 : decode cL_programFits 135 = .ok (.iconst 0, 1) := by decide +kernel
theorem dL_programFits_136 : decode cL_programFits 136 = .ok (.if_icmp .ne 20, 3) := by decide +kernel
theorem dL_programFits_139 : decode cL_programFits 139 = .ok (.aload_n 0, 1) := by decide +kernel
theorem dL_programFits_140 : decode cL_programFits 140 = .ok (.iload_n 1, 1) := by decide +kernel
theorem dL_programFits_141 : decode cL_programFits 141 = .ok (.bipush 8, 2) := by decide +kernel
theorem dL_programFits_143 : decode cL_programFits 143 = .ok (.invokevirtual 25, 3) := by decide +kernel
theorem dL_programFits_146 : decode cL_programFits 146 = .ok (.sipush (-10001), 3) := by decide +kernel
theorem dL_programFits_149 : decode cL_programFits 149 = .ok (.if_icmp .ne 7, 3) := by decide +kernel
theorem dL_programFits_152 : decode cL_programFits 152 = .ok (.iconst 1, 1) := by decide +kernel
theorem dL_programFits_153 : decode cL_programFits 153 = .ok (.goto 4, 3) := by decide +kernel
theorem dL_programFits_156 : decode cL_programFits 156 = .ok (.iconst 0, 1) := by decide +kernel
theorem dL_programFits_157 : decode cL_programFits 157 = .ok (.ireturn, 1) := by decide +kernel
theorem dL_runFits_0 : decode cL_runFits 0 = .ok (.aload_n 0, 1) := by decide +kernel
theorem dL_runFits_1 : decode cL_runFits 1 = .ok (.iload_n 1, 1) := by decide +kernel
theorem dL_runFits_2 : decode cL_runFits 2 = .ok (.iload_n 2, 1) := by decide +kernel
theorem dL_runFits_3 : decode cL_runFits 3 = .ok (.iload_n 3, 1) := by decide +kernel
theorem dL_runFits_4 : decode cL_runFits 4 = .ok (.iconst 0, 1) := by decide +kernel
theorem dL_runFits_5 : decode cL_runFits 5 = .ok (.invokevirtual 28, 3) := by decide +kernel
theorem dL_runFits_8 : decode cL_runFits 8 = .ok (.istore 4, 2) := by decide +kernel
theorem dL_runFits_10 : decode cL_runFits 10 = .ok (.aload_n 0, 1) := by decide +kernel
theorem dL_runFits_11 : decode cL_runFits 11 = .ok (.iload_n 1, 1) := by decide +kernel
theorem dL_runFits_12 : decode cL_runFits 12 = .ok (.iload_n 2, 1) := by decide +kernel
theorem dL_runFits_13 : decode cL_runFits 13 = .ok (.iload_n 3, 1) := by decide +kernel
theorem dL_runFits_14 : decode cL_runFits 14 = .ok (.iconst 1, 1) := by decide +kernel
theorem dL_runFits_15 : decode cL_runFits 15 = .ok (.invokevirtual 28, 3) := by decide +kernel
theorem dL_runFits_18 : decode cL_runFits 18 = .ok (.istore 5, 2) := by decide +kernel
theorem dL_runFits_20 : decode cL_runFits 20 = .ok (.aload_n 0, 1) := by decide +kernel
theorem dL_runFits_21 : decode cL_runFits 21 = .ok (.iload_n 1, 1) := by decide +kernel
theorem dL_runFits_22 : decode cL_runFits 22 = .ok (.iload_n 2, 1) := by decide +kernel
theorem dL_runFits_23 : decode cL_runFits 23 = .ok (.iload_n 3, 1) := by decide +kernel
theorem dL_runFits_24 : decode cL_runFits 24 = .ok (.iconst 2, 1) := by decide +kernel
theorem dL_runFits_25 : decode cL_runFits 25 = .ok (.invokevirtual 28, 3) := by decide +kernel
theorem dL_runFits_28 : decode cL_runFits 28 = .ok (.istore 6, 2) := by decide +kernel
theorem dL_runFits_30 : decode cL_runFits 30 = .ok (.aload_n 0, 1) := by decide +kernel
theorem dL_runFits_31 : decode cL_runFits 31 = .ok (.iload_n 1, 1) := by decide +kernel
theorem dL_runFits_32 : decode cL_runFits 32 = .ok (.iload_n 2, 1) := by decide +kernel
theorem dL_runFits_33 : decode cL_runFits 33 = .ok (.iload_n 3, 1) := by decide +kernel
theorem dL_runFits_34 : decode cL_runFits 34 = .ok (.iconst 3, 1) := by decide +kernel
theorem dL_runFits_35 : decode cL_runFits 35 = .ok (.invokevirtual 28, 3) := by decide +kernel
theorem dL_runFits_38 : decode cL_runFits 38 = .ok (.istore 7, 2) := by decide +kernel
theorem dL_runFits_40 : decode cL_runFits 40 = .ok (.aload_n 0, 1) := by decide +kernel
theorem dL_runFits_41 : decode cL_runFits 41 = .ok (.iload_n 1, 1) := by decide +kernel
theorem dL_runFits_42 : decode cL_runFits 42 = .ok (.iload_n 2, 1) := by decide +kernel
theorem dL_runFits_43 : decode cL_runFits 43 = .ok (.iload_n 3, 1) := by decide +kernel
theorem dL_runFits_44 : decode cL_runFits 44 = .ok (.iconst 4, 1) := by decide +kernel
theorem dL_runFits_45 : decode cL_runFits 45 = .ok (.invokevirtual 28, 3) := by decide +kernel
theorem dL_runFits_48 : decode cL_runFits 48 = .ok (.istore 8, 2) := by decide +kernel
theorem dL_runFits_50 : decode cL_runFits 50 = .ok (.aload_n 0, 1) := by decide +kernel
theorem dL_runFits_51 : decode cL_runFits 51 = .ok (.iload_n 1, 1) := by decide +kernel
theorem dL_runFits_52 : decode cL_runFits 52 = .ok (.iload_n 2, 1) := by decide +kernel
theorem dL_runFits_53 : decode cL_runFits 53 = .ok (.iload_n 3, 1) := by decide +kernel
theorem dL_runFits_54 : decode cL_runFits 54 = .ok (.iconst 5, 1) := by decide +kernel
theorem dL_runFits_55 : decode cL_runFits 55 = .ok (.invokevirtual 28, 3) := by decide +kernel
theorem dL_runFits_58 : decode cL_runFits 58 = .ok (.istore 9, 2) := by decide +kernel
theorem dL_runFits_60 : decode cL_runFits 60 = .ok (.iload 4, 2) := by decide +kernel
theorem dL_runFits_62 : decode cL_runFits 62 = .ok (.ifCond .lt 71, 3) := by decide +kernel
theorem dL_runFits_65 : decode cL_runFits 65 = .ok (.iload 4, 2) := by decide +kernel
theorem dL_runFits_67 : decode cL_runFits 67 = .ok (.sipush 400, 3) := by decide +kernel
theorem dL_runFits_70 : decode cL_runFits 70 = .ok (.if_icmp .gt 63, 3) := by decide +kernel
theorem dL_runFits_73 : decode cL_runFits 73 = .ok (.iload 5, 2) := by decide +kernel
theorem dL_runFits_75 : decode cL_runFits 75 = .ok (.ifCond .eq 11, 3) := by decide +kernel
theorem dL_runFits_78 : decode cL_runFits 78 = .ok (.iload 4, 2) := by decide +kernel
theorem dL_runFits_80 : decode cL_runFits 80 = .ok (.sipush 400, 3) := by decide +kernel
theorem dL_runFits_83 : decode cL_runFits 83 = .ok (.if_icmp .ne 50, 3) := by decide +kernel
theorem dL_runFits_86 : decode cL_runFits 86 = .ok (.iload 6, 2) := by decide +kernel
theorem dL_runFits_88 : decode cL_runFits 88 = .ok (.iload 7, 2) := by decide +kernel
theorem dL_runFits_90 : decode cL_runFits 90 = .ok (.iadd, 1) := by decide +kernel
theorem dL_runFits_91 : decode cL_runFits 91 = .ok (.iload 8, 2) := by decide +kernel
theorem dL_runFits_93 : decode cL_runFits 93 = .ok (.iadd, 1) := by decide +kernel
theorem dL_runFits_94 : decode cL_runFits 94 = .ok (.iload 4, 2) := by decide +kernel
theorem dL_runFits_96 : decode cL_runFits 96 = .ok (.if_icmp .gt 37, 3) := by decide +kernel
theorem dL_runFits_99 : decode cL_runFits 99 = .ok (.iload 9, 2) := by decide +kernel
theorem dL_runFits_101 : decode cL_runFits 101 = .ok (.iload 8, 2) := by decide +kernel
theorem dL_runFits_103 : decode cL_runFits 103 = .ok (.if_icmp .gt 30, 3) := by decide +kernel
theorem dL_runFits_106 : decode cL_runFits 106 = .ok (.iload 8, 2) := by decide +kernel
theorem dL_runFits_108 : decode cL_runFits 108 = .ok (.ifCond .ne 7, 3) := by decide +kernel
theorem dL_runFits_111 : decode cL_runFits 111 = .ok (.iconst 1, 1) := by decide +kernel
theorem dL_runFits_112 : decode cL_runFits 112 = .ok (.goto 4, 3) := by decide +kernel
theorem dL_runFits_115 : decode cL_runFits 115 = .ok (.iconst 0, 1) := by decide +kernel
theorem dL_runFits_116 : decode cL_runFits 116 = .ok (.iload 9, 2) := by decide +kernel
theorem dL_runFits_118 : decode cL_runFits 118 = .ok (.ifCond .ne 7, 3) := by decide +kernel
theorem dL_runFits_121 : decode cL_runFits 121 = .ok (.iconst 1, 1) := by decide +kernel
theorem dL_runFits_122 : decode cL_runFits 122 = .ok (.goto 4, 3) := by decide +kernel
theorem dL_runFits_125 : decode cL_runFits 125 = .ok (.iconst 0, 1) := by decide +kernel
theorem dL_runFits_126 : decode cL_runFits 126 = .ok (.if_icmp .ne 7, 3) := by decide +kernel
theorem dL_runFits_129 : decode cL_runFits 129 = .ok (.iconst 1, 1) := by decide +kernel
theorem dL_runFits_130 : decode cL_runFits 130 = .ok (.goto 4, 3) := by decide +kernel
theorem dL_runFits_133 : decode cL_runFits 133 = .ok (.iconst 0, 1) := by decide +kernel
theorem dL_runFits_134 : decode cL_runFits 134 = .ok (.istore 10, 2) := by decide +kernel
theorem dL_runFits_136 : decode cL_runFits 136 = .ok (.iload 10, 2) := by decide +kernel
theorem dL_runFits_138 : decode cL_runFits 138 = .ok (.ifCond .eq 57, 3) := by decide +kernel
theorem dL_runFits_141 : decode cL_runFits 141 = .ok (.iload 6, 2) := by decide +kernel
theorem dL_runFits_143 : decode cL_runFits 143 = .ok (.bipush 41, 2) := by decide +kernel
theorem dL_runFits_145 : decode cL_runFits 145 = .ok (.if_icmp .ge 8, 3) := by decide +kernel
theorem dL_runFits_148 : decode cL_runFits 148 = .ok (.iload 6, 2) := by decide +kernel
theorem dL_runFits_150 : decode cL_runFits 150 = .ok (.goto 5, 3) := by decide +kernel
theorem dL_runFits_153 : decode cL_runFits 153 = .ok (.bipush 40, 2) := by decide +kernel
theorem dL_runFits_155 : decode cL_runFits 155 = .ok (.aload_n 0, 1) := by decide +kernel
theorem dL_runFits_156 : decode cL_runFits 156 = .ok (.iload_n 1, 1) := by decide +kernel
theorem dL_runFits_157 : decode cL_runFits 157 = .ok (.iload_n 2, 1) := by decide +kernel
theorem dL_runFits_158 : decode cL_runFits 158 = .ok (.iload_n 3, 1) := by decide +kernel
theorem dL_runFits_159 : decode cL_runFits 159 = .ok (.iconst 1, 1) := by decide +kernel
theorem dL_runFits_160 : decode cL_runFits 160 = .ok (.invokestatic 36, 3) := by decide +kernel
theorem dL_runFits_163 : decode cL_runFits 163 = .ok (.if_icmp .ne 32, 3) := by decide +kernel
theorem dL_runFits_166 : decode cL_runFits 166 = .ok (.iload 7, 2) := by decide +kernel
theorem dL_runFits_168 : decode cL_runFits 168 = .ok (.bipush 41, 2) := by decide +kernel
theorem dL_runFits_170 : decode cL_runFits 170 = .ok (.if_icmp .ge 8, 3) := by decide +kernel
theorem dL_runFits_173 : decode cL_runFits 173 = .ok (.iload 7, 2) := by decide +kernel
theorem dL_runFits_175 : decode cL_runFits 175 = .ok (.goto 5, 3) := by decide +kernel
theorem dL_runFits_178 : decode cL_runFits 178 = .ok (.bipush 40, 2) := by decide +kernel
theorem dL_runFits_180 : decode cL_runFits 180 = .ok (.aload_n 0, 1) := by decide +kernel
theorem dL_runFits_181 : decode cL_runFits 181 = .ok (.iload_n 1, 1) := by decide +kernel
theorem dL_runFits_182 : decode cL_runFits 182 = .ok (.iload_n 2, 1) := by decide +kernel
theorem dL_runFits_183 : decode cL_runFits 183 = .ok (.iload_n 3, 1) := by decide +kernel
theorem dL_runFits_184 : decode cL_runFits 184 = .ok (.iconst 0, 1) := by decide +kernel
theorem dL_runFits_185 : decode cL_runFits 185 = .ok (.invokestatic 36, 3) := by decide +kernel
theorem dL_runFits_188 : decode cL_runFits 188 = .ok (.if_icmp .ne 7, 3) := by decide +kernel
theorem dL_runFits_191 : decode cL_runFits 191 = .ok (.iconst 1, 1) := by decide +kernel
theorem dL_runFits_192 : decode cL_runFits 192 = .ok (.goto 4, 3) := by decide +kernel
theorem dL_runFits_195 : decode cL_runFits 195 = .ok (.iconst 0, 1) := by decide +kernel
theorem dL_runFits_196 : decode cL_runFits 196 = .ok (.istore 10, 2) := by decide +kernel
theorem dL_runFits_198 : decode cL_runFits 198 = .ok (.iconst 0, 1) := by decide +kernel
theorem dL_runFits_199 : decode cL_runFits 199 = .ok (.istore 11, 2) := by decide +kernel
theorem dL_runFits_201 : decode cL_runFits 201 = .ok (.iload 11, 2) := by decide +kernel
theorem dL_runFits_203 : decode cL_runFits 203 = .ok (.bipush 6, 2) := by decide +kernel
theorem dL_runFits_205 : decode cL_runFits 205 = .ok (.if_icmp .ge 94, 3) := by decide +kernel
theorem dL_runFits_208 : decode cL_runFits 208 = .ok (.iload 10, 2) := by decide +kernel
theorem dL_runFits_210 : decode cL_runFits 210 = .ok (.ifCond .eq 89, 3) := by decide +kernel
theorem dL_runFits_213 : decode cL_runFits 213 = .ok (.aload_n 0, 1) := by decide +kernel
theorem dL_runFits_214 : decode cL_runFits 214 = .ok (.iload_n 1, 1) := by decide +kernel
theorem dL_runFits_215 : decode cL_runFits 215 = .ok (.iload_n 2, 1) := by decide +kernel
theorem dL_runFits_216 : decode cL_runFits 216 = .ok (.iload_n 3, 1) := by decide +kernel
theorem dL_runFits_217 : decode cL_runFits 217 = .ok (.iconst (-1), 1) := by decide +kernel
theorem dL_runFits_218 : decode cL_runFits 218 = .ok (.iload 11, 2) := by decide +kernel
theorem dL_runFits_220 : decode cL_runFits 220 = .ok (.invokevirtual 32, 3) := by decide +kernel
theorem dL_runFits_223 : decode cL_runFits 223 = .ok (.istore 12, 2) := by decide +kernel
theorem dL_runFits_225 : decode cL_runFits 225 = .ok (.iload 11, 2) := by decide +kernel
theorem dL_runFits_227 : decode cL_runFits 227 = .ok (.ifCond .ne 7, 3) := by decide +kernel
theorem dL_runFits_230 : decode cL_runFits 230 = .ok (.iload_n 2, 1) := by decide +kernel
theorem dL_runFits_231 : decode cL_runFits 231 = .ok (.goto 14, 3) := by decide +kernel
theorem dL_runFits_234 : decode cL_runFits 234 = .ok (.iload 11, 2) := by decide +kernel
theorem dL_runFits_236 : decode cL_runFits 236 = .ok (.iconst 1, 1) := by decide +kernel
theorem dL_runFits_237 : decode cL_runFits 237 = .ok (.if_icmp .ne 7, 3) := by decide +kernel
theorem dL_runFits_240 : decode cL_runFits 240 = .ok (.iload_n 3, 1) := by decide +kernel
theorem dL_runFits_241 : decode cL_runFits 241 = .ok (.goto 4, 3) := by decide +kernel
theorem dL_runFits_244 : decode cL_runFits 244 = .ok (.iconst 0, 1) := by decide +kernel
theorem dL_runFits_245 : decode cL_runFits 245 = .ok (.istore 13, 2) := by decide +kernel
theorem dL_runFits_247 : decode cL_runFits 247 = .ok (.iload 12, 2) := by decide +kernel
theorem dL_runFits_249 : decode cL_runFits 249 = .ok (.sipush (-999), 3) := by decide +kernel
theorem dL_runFits_252 : decode cL_runFits 252 = .ok (.if_icmp .lt 38, 3) := by decide +kernel
theorem dL_runFits_255 : decode cL_runFits 255 = .ok (.iload 12, 2) := by decide +kernel
theorem dL_runFits_257 : decode cL_runFits 257 = .ok (.sipush 999, 3) := by decide +kernel
theorem dL_runFits_260 : decode cL_runFits 260 = .ok (.if_icmp .gt 30, 3) := by decide +kernel
theorem dL_runFits_263 : decode cL_runFits 263 = .ok (.aload_n 0, 1) := by decide +kernel
theorem dL_runFits_264 : decode cL_runFits 264 = .ok (.iload_n 1, 1) := by decide +kernel
theorem dL_runFits_265 : decode cL_runFits 265 = .ok (.bipush 7, 2) := by decide +kernel
theorem dL_runFits_267 : decode cL_runFits 267 = .ok (.invokevirtual 25, 3) := by decide +kernel
theorem dL_runFits_270 : decode cL_runFits 270 = .ok (.iload 11, 2) := by decide +kernel
theorem dL_runFits_272 : decode cL_runFits 272 = .ok (.ishr, 1) := by decide +kernel
theorem dL_runFits_273 : decode cL_runFits 273 = .ok (.iconst 1, 1) := by decide +kernel
theorem dL_runFits_274 : decode cL_runFits 274 = .ok (.iand, 1) := by decide +kernel
theorem dL_runFits_275 : decode cL_runFits 275 = .ok (.iconst 1, 1) := by decide +kernel
theorem dL_runFits_276 : decode cL_runFits 276 = .ok (.if_icmp .eq 10, 3) := by decide +kernel
theorem dL_runFits_279 : decode cL_runFits 279 = .ok (.iload 12, 2) := by decide +kernel
theorem dL_runFits_281 : decode cL_runFits 281 = .ok (.iload 13, 2) := by decide +kernel
theorem dL_runFits_283 : decode cL_runFits 283 = .ok (.if_icmp .ne 7, 3) := by decide +kernel
theorem dL_runFits_286 : decode cL_runFits 286 = .ok (.iconst 1, 1) := by decide +kernel
theorem dL_runFits_287 : decode cL_runFits 287 = .ok (.goto 4, 3) := by decide +kernel
theorem dL_runFits_290 : decode cL_runFits 290 = .ok (.iconst 0, 1) := by decide +kernel
theorem dL_runFits_291 : decode cL_runFits 291 = .ok (.istore 10, 2) := by decide +kernel
theorem dL_runFits_293 : decode cL_runFits 293 = .ok (.iinc 11 1, 3) := by decide +kernel
theorem dL_runFits_296 : decode cL_runFits 296 = .ok (.goto (-95), 3) := by decide +kernel
theorem dL_runFits_299 : decode cL_runFits 299 = .ok (.iload 10, 2) := by decide +kernel
theorem dL_runFits_301 : decode cL_runFits 301 = .ok (.ifCond .eq 52, 3) := by decide +kernel
theorem dL_runFits_304 : decode cL_runFits 304 = .ok (.aload_n 0, 1) := by decide +kernel
theorem dL_runFits_305 : decode cL_runFits 305 = .ok (.iload_n 1, 1) := by decide +kernel
theorem dL_runFits_306 : decode cL_runFits 306 = .ok (.iconst 4, 1) := by decide +kernel
theorem dL_runFits_307 : decode cL_runFits 307 = .ok (.invokevirtual 25, 3) := by decide +kernel
theorem dL_runFits_310 : decode cL_runFits 310 = .ok (.ifCond .gt 39, 3) := by decide +kernel
theorem dL_runFits_313 : decode cL_runFits 313 = .ok (.iload 4, 2) := by decide +kernel
theorem dL_runFits_315 : decode cL_runFits 315 = .ok (.aload_n 0, 1) := by decide +kernel
theorem dL_runFits_316 : decode cL_runFits 316 = .ok (.iload_n 1, 1) := by decide +kernel
theorem dL_runFits_317 : decode cL_runFits 317 = .ok (.iconst 0, 1) := by decide +kernel
theorem dL_runFits_318 : decode cL_runFits 318 = .ok (.invokevirtual 25, 3) := by decide +kernel
theorem dL_runFits_321 : decode cL_runFits 321 = .ok (.if_icmp .gt 32, 3) := by decide +kernel
theorem dL_runFits_324 : decode cL_runFits 324 = .ok (.iload 5, 2) := by decide +kernel
theorem dL_runFits_326 : decode cL_runFits 326 = .ok (.ifCond .ne 27, 3) := by decide +kernel
theorem dL_runFits_329 : decode cL_runFits 329 = .ok (.aload_n 0, 1) := by decide +kernel
theorem dL_runFits_330 : decode cL_runFits 330 = .ok (.iload_n 1, 1) := by decide +kernel
theorem dL_runFits_331 : decode cL_runFits 331 = .ok (.iconst 5, 1) := by decide +kernel
theorem dL_runFits_332 : decode cL_runFits 332 = .ok (.invokevirtual 25, 3) := by decide +kernel
theorem dL_runFits_335 : decode cL_runFits 335 = .ok (.ifCond .gt 14, 3) := by decide +kernel
theorem dL_runFits_338 : decode cL_runFits 338 = .ok (.iload 4, 2) := by decide +kernel
theorem dL_runFits_340 : decode cL_runFits 340 = .ok (.aload_n 0, 1) := by decide +kernel
theorem dL_runFits_341 : decode cL_runFits 341 = .ok (.iload_n 1, 1) := by decide +kernel
theorem dL_runFits_342 : decode cL_runFits 342 = .ok (.iconst 0, 1) := by decide +kernel
theorem dL_runFits_343 : decode cL_runFits 343 = .ok (.invokevirtual 25, 3) := by decide +kernel
theorem dL_runFits_346 : decode cL_runFits 346 = .ok (.if_icmp .ne 7, 3) := by decide +kernel
theorem dL_runFits_349 : decode cL_runFits 349 = .ok (.iconst 1, 1) := by decide +kernel
theorem dL_runFits_350 : decode cL_runFits 350 = .ok (.goto 4, 3) := by decide +kernel
theorem dL_runFits_353 : decode cL_runFits 353 = .ok (.iconst 0, 1) := by decide +kernel
theorem dL_runFits_354 : decode cL_runFits 354 = .ok (.ireturn, 1) := by decide +kernel
theorem dL_kept_0 : decode cL_kept 0 = .ok (.iconst 0, 1) := by decide +kernel
theorem dL_kept_1 : decode cL_kept 1 = .ok (.istore 5, 2) := by decide +kernel
theorem dL_kept_3 : decode cL_kept 3 = .ok (.iload 5, 2) := by decide +kernel
theorem dL_kept_5 : decode cL_kept 5 = .ok (.bipush 50, 2) := by decide +kernel
theorem dL_kept_7 : decode cL_kept 7 = .ok (.if_icmp .ge 42, 3) := by decide +kernel
theorem dL_kept_10 : decode cL_kept 10 = .ok (.iload 4, 2) := by decide +kernel
theorem dL_kept_12 : decode cL_kept 12 = .ok (.ifCond .eq 15, 3) := by decide +kernel
theorem dL_kept_15 : decode cL_kept 15 = .ok (.aload_n 0, 1) := by decide +kernel
theorem dL_kept_16 : decode cL_kept 16 = .ok (.iload_n 1, 1) := by decide +kernel
theorem dL_kept_17 : decode cL_kept 17 = .ok (.iload_n 2, 1) := by decide +kernel
theorem dL_kept_18 : decode cL_kept 18 = .ok (.iload_n 3, 1) := by decide +kernel
theorem dL_kept_19 : decode cL_kept 19 = .ok (.iload 5, 2) := by decide +kernel
theorem dL_kept_21 : decode cL_kept 21 = .ok (.invokevirtual 40, 3) := by decide +kernel
theorem dL_kept_24 : decode cL_kept 24 = .ok (.goto 13, 3) := by decide +kernel
theorem dL_kept_27 : decode cL_kept 27 = .ok (.aload_n 0, 1) := by decide +kernel
theorem dL_kept_28 : decode cL_kept 28 = .ok (.iload_n 1, 1) := by decide +kernel
theorem dL_kept_29 : decode cL_kept 29 = .ok (.iload_n 2, 1) := by decide +kernel
theorem dL_kept_30 : decode cL_kept 30 = .ok (.iload_n 3, 1) := by decide +kernel
theorem dL_kept_31 : decode cL_kept 31 = .ok (.iload 5, 2) := by decide +kernel
theorem dL_kept_33 : decode cL_kept 33 = .ok (.iconst 0, 1) := by decide +kernel
theorem dL_kept_34 : decode cL_kept 34 = .ok (.invokevirtual 32, 3) := by decide +kernel
theorem dL_kept_37 : decode cL_kept 37 = .ok (.sipush (-10009), 3) := by decide +kernel
theorem dL_kept_40 : decode cL_kept 40 = .ok (.if_icmp .eq 9, 3) := by decide +kernel
theorem dL_kept_43 : decode cL_kept 43 = .ok (.iinc 5 1, 3) := by decide +kernel
theorem dL_kept_46 : decode cL_kept 46 = .ok (.goto (-43), 3) := by decide +kernel
theorem dL_kept_49 : decode cL_kept 49 = .ok (.iload 5, 2) := by decide +kernel
theorem dL_kept_51 : decode cL_kept 51 = .ok (.ireturn, 1) := by decide +kernel
