theorem dX0_init_0 : decode cX0_init 0 = .ok (.aload_n 0, 1) := by decide +kernel
theorem dX0_init_1 : decode cX0_init 1 = .ok (.invokespecial 3, 3) := by decide +kernel
theorem dX0_init_4 : decode cX0_init 4 = .ok (.aload_n 0, 1) := by decide +kernel
theorem dX0_init_5 : decode cX0_init 5 = .ok (.iconst 5, 1) := by decide +kernel
theorem dX0_init_6 : decode cX0_init 6 = .ok (.anewarray 9, 3) := by decide +kernel
theorem dX0_init_9 : decode cX0_init 9 = .ok (.putfield 11, 3) := by decide +kernel
theorem dX0_init_12 : decode cX0_init 12 = .ok (.aload_n 0, 1) := by decide +kernel
theorem dX0_init_13 : decode cX0_init 13 = .ok (.iconst 5, 1) := by decide +kernel
theorem dX0_init_14 : decode cX0_init 14 = .ok (.anewarray 9, 3) := by decide +kernel
theorem dX0_init_17 : decode cX0_init 17 = .ok (.putfield 17, 3) := by decide +kernel
theorem dX0_init_20 : decode cX0_init 20 = .ok (.iconst 0, 1) := by decide +kernel
theorem dX0_init_21 : decode cX0_init 21 = .ok (.istore_n 1, 1) := by decide +kernel
theorem dX0_init_22 : decode cX0_init 22 = .ok (.iload_n 1, 1) := by decide +kernel
theorem dX0_init_23 : decode cX0_init 23 = .ok (.iconst 5, 1) := by decide +kernel
theorem dX0_init_24 : decode cX0_init 24 = .ok (.if_icmp .ge 35, 3) := by decide +kernel
theorem dX0_init_27 : decode cX0_init 27 = .ok (.aload_n 0, 1) := by decide +kernel
theorem dX0_init_28 : decode cX0_init 28 = .ok (.getfield 11, 3) := by decide +kernel
theorem dX0_init_31 : decode cX0_init 31 = .ok (.iload_n 1, 1) := by decide +kernel
theorem dX0_init_32 : decode cX0_init 32 = .ok (.new 9, 3) := by decide +kernel
theorem dX0_init_35 : decode cX0_init 35 = .ok (.dup, 1) := by decide +kernel
theorem dX0_init_36 : decode cX0_init 36 = .ok (.invokespecial 20, 3) := by decide +kernel
theorem dX0_init_39 : decode cX0_init 39 = .ok (.aastore, 1) := by decide +kernel
theorem dX0_init_40 : decode cX0_init 40 = .ok (.aload_n 0, 1) := by decide +kernel
theorem dX0_init_41 : decode cX0_init 41 = .ok (.getfield 17, 3) := by decide +kernel
theorem dX0_init_44 : decode cX0_init 44 = .ok (.iload_n 1, 1) := by decide +kernel
theorem dX0_init_45 : decode cX0_init 45 = .ok (.new 9, 3) := by decide +kernel
theorem dX0_init_48 : decode cX0_init 48 = .ok (.dup, 1) := by decide +kernel
theorem dX0_init_49 : decode cX0_init 49 = .ok (.invokespecial 20, 3) := by decide +kernel
theorem dX0_init_52 : decode cX0_init 52 = .ok (.aastore, 1) := by decide +kernel
theorem dX0_init_53 : decode cX0_init 53 = .ok (.iinc 1 1, 3) := by decide +kernel
theorem dX0_init_56 : decode cX0_init 56 = .ok (.goto (-34), 3) := by decide +kernel
theorem dX0_init_59 : decode cX0_init 59 = .ok (.return_, 1) := by decide +kernel
theorem dX0_push_0 : decode cX0_push 0 = .ok (.aload_n 0, 1) := by decide +kernel
theorem dX0_push_1 : decode cX0_push 1 = .ok (.getfield 21, 3) := by decide +kernel
theorem dX0_push_4 : decode cX0_push 4 = .ok (.iconst 5, 1) := by decide +kernel
theorem dX0_push_5 : decode cX0_push 5 = .ok (.if_icmp .lt 7, 3) := by decide +kernel
theorem dX0_push_8 : decode cX0_push 8 = .ok (.aload_n 0, 1) := by decide +kernel
theorem dX0_push_9 : decode cX0_push 9 = .ok (.invokevirtual 25, 3) := by decide +kernel
theorem dX0_push_12 : decode cX0_push 12 = .ok (.aload_n 0, 1) := by decide +kernel
theorem dX0_push_13 : decode cX0_push 13 = .ok (.getfield 21, 3) := by decide +kernel
theorem dX0_push_16 : decode cX0_push 16 = .ok (.iconst 0, 1) := by decide +kernel
theorem dX0_push_17 : decode cX0_push 17 = .ok (.iconst 4, 1) := by decide +kernel
theorem dX0_push_18 : decode cX0_push 18 = .ok (.invokestatic 28, 3) := by decide +kernel
theorem dX0_push_21 : decode cX0_push 21 = .ok (.ifCond .eq 39, 3) := by decide +kernel
theorem dX0_push_24 : decode cX0_push 24 = .ok (.aload_n 0, 1) := by decide +kernel
theorem dX0_push_25 : decode cX0_push 25 = .ok (.getfield 11, 3) := by decide +kernel
theorem dX0_push_28 : decode cX0_push 28 = .ok (.aload_n 0, 1) := by decide +kernel
theorem dX0_push_29 : decode cX0_push 29 = .ok (.getfield 21, 3) := by decide +kernel
theorem dX0_push_32 : decode cX0_push 32 = .ok (.aaload, 1) := by decide +kernel
theorem dX0_push_33 : decode cX0_push 33 = .ok (.aload_n 1, 1) := by decide +kernel
theorem dX0_push_34 : decode cX0_push 34 = .ok (.invokevirtual 32, 3) := by decide +kernel
theorem dX0_push_37 : decode cX0_push 37 = .ok (.aload_n 0, 1) := by decide +kernel
theorem dX0_push_38 : decode cX0_push 38 = .ok (.getfield 17, 3) := by decide +kernel
theorem dX0_push_41 : decode cX0_push 41 = .ok (.aload_n 0, 1) := by decide +kernel
theorem dX0_push_42 : decode cX0_push 42 = .ok (.getfield 21, 3) := by decide +kernel
theorem dX0_push_45 : decode cX0_push 45 = .ok (.aaload, 1) := by decide +kernel
theorem dX0_push_46 : decode cX0_push 46 = .ok (.aload_n 2, 1) := by decide +kernel
theorem dX0_push_47 : decode cX0_push 47 = .ok (.invokevirtual 32, 3) := by decide +kernel
theorem dX0_push_50 : decode cX0_push 50 = .ok (.aload_n 0, 1) := by decide +kernel
theorem dX0_push_51 : decode cX0_push 51 = .ok (.dup, 1) := by decide +kernel
theorem dX0_push_52 : decode cX0_push 52 = .ok (.getfield 21, 3) := by decide +kernel
theorem dX0_push_55 : decode cX0_push 55 = .ok (.iconst 1, 1) := by decide +kernel
theorem dX0_push_56 : decode cX0_push 56 = .ok (.iadd, 1) := by decide +kernel
theorem dX0_push_57 : decode cX0_push 57 = .ok (.putfield 21, 3) := by decide +kernel
theorem dX0_push_60 : decode cX0_push 60 = .ok (.return_, 1) := by decide +kernel
theorem dX0_pop_0 : decode cX0_pop 0 = .ok (.aload_n 0, 1) := by decide +kernel
theorem dX0_pop_1 : decode cX0_pop 1 = .ok (.getfield 21, 3) := by decide +kernel
theorem dX0_pop_4 : decode cX0_pop 4 = .ok (.iconst 1, 1) := by decide +kernel
theorem dX0_pop_5 : decode cX0_pop 5 = .ok (.isub, 1) := by decide +kernel
theorem dX0_pop_6 : decode cX0_pop 6 = .ok (.istore_n 3, 1) := by decide +kernel
theorem dX0_pop_7 : decode cX0_pop 7 = .ok (.iload_n 3, 1) := by decide +kernel
theorem dX0_pop_8 : decode cX0_pop 8 = .ok (.iconst 0, 1) := by decide +kernel
theorem dX0_pop_9 : decode cX0_pop 9 = .ok (.iconst 4, 1) := by decide +kernel
theorem dX0_pop_10 : decode cX0_pop 10 = .ok (.invokestatic 28, 3) := by decide +kernel
theorem dX0_pop_13 : decode cX0_pop 13 = .ok (.ifCond .eq 28, 3) := by decide +kernel
theorem dX0_pop_16 : decode cX0_pop 16 = .ok (.aload_n 1, 1) := by decide +kernel
theorem dX0_pop_17 : decode cX0_pop 17 = .ok (.aload_n 0, 1) := by decide +kernel
theorem dX0_pop_18 : decode cX0_pop 18 = .ok (.getfield 11, 3) := by decide +kernel
theorem dX0_pop_21 : decode cX0_pop 21 = .ok (.iload_n 3, 1) := by decide +kernel
theorem dX0_pop_22 : decode cX0_pop 22 = .ok (.aaload, 1) := by decide +kernel
theorem dX0_pop_23 : decode cX0_pop 23 = .ok (.invokevirtual 32, 3) := by decide +kernel
theorem dX0_pop_26 : decode cX0_pop 26 = .ok (.aload_n 2, 1) := by decide +kernel
theorem dX0_pop_27 : decode cX0_pop 27 = .ok (.aload_n 0, 1) := by decide +kernel
theorem dX0_pop_28 : decode cX0_pop 28 = .ok (.getfield 17, 3) := by decide +kernel
theorem dX0_pop_31 : decode cX0_pop 31 = .ok (.iload_n 3, 1) := by decide +kernel
theorem dX0_pop_32 : decode cX0_pop 32 = .ok (.aaload, 1) := by decide +kernel
theorem dX0_pop_33 : decode cX0_pop 33 = .ok (.invokevirtual 32, 3) := by decide +kernel
theorem dX0_pop_36 : decode cX0_pop 36 = .ok (.aload_n 0, 1) := by decide +kernel
theorem dX0_pop_37 : decode cX0_pop 37 = .ok (.iload_n 3, 1) := by decide +kernel
theorem dX0_pop_38 : decode cX0_pop 38 = .ok (.putfield 21, 3) := by decide +kernel
theorem dX0_pop_41 : decode cX0_pop 41 = .ok (.return_, 1) := by decide +kernel
theorem dX0_dropOldest_0 : decode cX0_dropOldest 0 = .ok (.aload_n 0, 1) := by decide +kernel
theorem dX0_dropOldest_1 : decode cX0_dropOldest 1 = .ok (.getfield 11, 3) := by decide +kernel
theorem dX0_dropOldest_4 : decode cX0_dropOldest 4 = .ok (.iconst 0, 1) := by decide +kernel
theorem dX0_dropOldest_5 : decode cX0_dropOldest 5 = .ok (.aaload, 1) := by decide +kernel
theorem dX0_dropOldest_6 : decode cX0_dropOldest 6 = .ok (.astore_n 1, 1) := by decide +kernel
theorem dX0_dropOldest_7 : decode cX0_dropOldest 7 = .ok (.aload_n 0, 1) := by decide +kernel
theorem dX0_dropOldest_8 : decode cX0_dropOldest 8 = .ok (.getfield 17, 3) := by decide +kernel
theorem dX0_dropOldest_11 : decode cX0_dropOldest 11 = .ok (.iconst 0, 1) := by decide +kernel
theorem dX0_dropOldest_12 : decode cX0_dropOldest 12 = .ok (.aaload, 1) := by decide +kernel
theorem dX0_dropOldest_13 : decode cX0_dropOldest 13 = .ok (.astore_n 2, 1) := by decide +kernel
theorem dX0_dropOldest_14 : decode cX0_dropOldest 14 = .ok (.iconst 1, 1) := by decide +kernel
theorem dX0_dropOldest_15 : decode cX0_dropOldest 15 = .ok (.istore_n 3, 1) := by decide +kernel
theorem dX0_dropOldest_16 : decode cX0_dropOldest 16 = .ok (.iload_n 3, 1) := by decide +kernel
theorem dX0_dropOldest_17 : decode cX0_dropOldest 17 = .ok (.iconst 5, 1) := by decide +kernel
theorem dX0_dropOldest_18 : decode cX0_dropOldest 18 = .ok (.if_icmp .ge 37, 3) := by decide +kernel
theorem dX0_dropOldest_21 : decode cX0_dropOldest 21 = .ok (.aload_n 0, 1) := by decide +kernel
theorem dX0_dropOldest_22 : decode cX0_dropOldest 22 = .ok (.getfield 11, 3) := by decide +kernel
theorem dX0_dropOldest_25 : decode cX0_dropOldest 25 = .ok (.iload_n 3, 1) := by decide +kernel
theorem dX0_dropOldest_26 : decode cX0_dropOldest 26 = .ok (.iconst 1, 1) := by decide +kernel
theorem dX0_dropOldest_27 : decode cX0_dropOldest 27 = .ok (.isub, 1) := by decide +kernel
theorem dX0_dropOldest_28 : decode cX0_dropOldest 28 = .ok (.aload_n 0, 1) := by decide +kernel
theorem dX0_dropOldest_29 : decode cX0_dropOldest 29 = .ok (.getfield 11, 3) := by decide +kernel
theorem dX0_dropOldest_32 : decode cX0_dropOldest 32 = .ok (.iload_n 3, 1) := by decide +kernel
theorem dX0_dropOldest_33 : decode cX0_dropOldest 33 = .ok (.aaload, 1) := by decide +kernel
theorem dX0_dropOldest_34 : decode cX0_dropOldest 34 = .ok (.aastore, 1) := by decide +kernel
theorem dX0_dropOldest_35 : decode cX0_dropOldest 35 = .ok (.aload_n 0, 1) := by decide +kernel
theorem dX0_dropOldest_36 : decode cX0_dropOldest 36 = .ok (.getfield 17, 3) := by decide +kernel
theorem dX0_dropOldest_39 : decode cX0_dropOldest 39 = .ok (.iload_n 3, 1) := by decide +kernel
theorem dX0_dropOldest_40 : decode cX0_dropOldest 40 = .ok (.iconst 1, 1) := by decide +kernel
theorem dX0_dropOldest_41 : decode cX0_dropOldest 41 = .ok (.isub, 1) := by decide +kernel
theorem dX0_dropOldest_42 : decode cX0_dropOldest 42 = .ok (.aload_n 0, 1) := by decide +kernel
theorem dX0_dropOldest_43 : decode cX0_dropOldest 43 = .ok (.getfield 17, 3) := by decide +kernel
theorem dX0_dropOldest_46 : decode cX0_dropOldest 46 = .ok (.iload_n 3, 1) := by decide +kernel
theorem dX0_dropOldest_47 : decode cX0_dropOldest 47 = .ok (.aaload, 1) := by decide +kernel
theorem dX0_dropOldest_48 : decode cX0_dropOldest 48 = .ok (.aastore, 1) := by decide +kernel
theorem dX0_dropOldest_49 : decode cX0_dropOldest 49 = .ok (.iinc 3 1, 3) := by decide +kernel
theorem dX0_dropOldest_52 : decode cX0_dropOldest 52 = .ok (.goto (-36), 3) := by decide +kernel
theorem dX0_dropOldest_55 : decode cX0_dropOldest 55 = .ok (.aload_n 0, 1) := by decide +kernel
theorem dX0_dropOldest_56 : decode cX0_dropOldest 56 = .ok (.getfield 11, 3) := by decide +kernel
theorem dX0_dropOldest_59 : decode cX0_dropOldest 59 = .ok (.iconst 4, 1) := by decide +kernel
theorem dX0_dropOldest_60 : decode cX0_dropOldest 60 = .ok (.aload_n 1, 1) := by decide +kernel
theorem dX0_dropOldest_61 : decode cX0_dropOldest 61 = .ok (.aastore, 1) := by decide +kernel
theorem dX0_dropOldest_62 : decode cX0_dropOldest 62 = .ok (.aload_n 0, 1) := by decide +kernel
theorem dX0_dropOldest_63 : decode cX0_dropOldest 63 = .ok (.getfield 17, 3) := by decide +kernel
theorem dX0_dropOldest_66 : decode cX0_dropOldest 66 = .ok (.iconst 4, 1) := by decide +kernel
theorem dX0_dropOldest_67 : decode cX0_dropOldest 67 = .ok (.aload_n 2, 1) := by decide +kernel
theorem dX0_dropOldest_68 : decode cX0_dropOldest 68 = .ok (.aastore, 1) := by decide +kernel
theorem dX0_dropOldest_69 : decode cX0_dropOldest 69 = .ok (.aload_n 0, 1) := by decide +kernel
theorem dX0_dropOldest_70 : decode cX0_dropOldest 70 = .ok (.iconst 4, 1) := by decide +kernel
theorem dX0_dropOldest_71 : decode cX0_dropOldest 71 = .ok (.putfield 21, 3) := by decide +kernel
theorem dX0_dropOldest_74 : decode cX0_dropOldest 74 = .ok (.return_, 1) := by decide +kernel
theorem dX1_init_0 : decode cX1_init 0 = .ok (.aload_n 0, 1) := by decide +kernel
theorem dX1_init_1 : decode cX1_init 1 = .ok (.invokespecial 3, 3) := by decide +kernel
theorem dX1_init_4 : decode cX1_init 4 = .ok (.aload_n 0, 1) := by decide +kernel
theorem dX1_init_5 : decode cX1_init 5 = .ok (.bipush 60, 2) := by decide +kernel
theorem dX1_init_7 : decode cX1_init 7 = .ok (.newarray .int, 2) := by decide +kernel
theorem dX1_init_9 : decode cX1_init 9 = .ok (.putfield 9, 3) := by decide +kernel
theorem dX1_init_12 : decode cX1_init 12 = .ok (.aload_n 0, 1) := by decide +kernel
theorem dX1_init_13 : decode cX1_init 13 = .ok (.bipush 60, 2) := by decide +kernel
theorem dX1_init_15 : decode cX1_init 15 = .ok (.newarray .int, 2) := by decide +kernel
theorem dX1_init_17 : decode cX1_init 17 = .ok (.putfield 15, 3) := by decide +kernel
theorem dX1_init_20 : decode cX1_init 20 = .ok (.aload_n 0, 1) := by decide +kernel
theorem dX1_init_21 : decode cX1_init 21 = .ok (.bipush 60, 2) := by decide +kernel
theorem dX1_init_23 : decode cX1_init 23 = .ok (.newarray .int, 2) := by decide +kernel
theorem dX1_init_25 : decode cX1_init 25 = .ok (.putfield 18, 3) := by decide +kernel
theorem dX1_init_28 : decode cX1_init 28 = .ok (.aload_n 0, 1) := by decide +kernel
theorem dX1_init_29 : decode cX1_init 29 = .ok (.bipush 60, 2) := by decide +kernel
theorem dX1_init_31 : decode cX1_init 31 = .ok (.newarray .int, 2) := by decide +kernel
theorem dX1_init_33 : decode cX1_init 33 = .ok (.putfield 21, 3) := by decide +kernel
theorem dX1_init_36 : decode cX1_init 36 = .ok (.aload_n 0, 1) := by decide +kernel
theorem dX1_init_37 : decode cX1_init 37 = .ok (.bipush 60, 2) := by decide +kernel
theorem dX1_init_39 : decode cX1_init 39 = .ok (.newarray .int, 2) := by decide +kernel
theorem dX1_init_41 : decode cX1_init 41 = .ok (.putfield 24, 3) := by decide +kernel
theorem dX1_init_44 : decode cX1_init 44 = .ok (.aload_n 0, 1) := by decide +kernel
theorem dX1_init_45 : decode cX1_init 45 = .ok (.bipush 60, 2) := by decide +kernel
theorem dX1_init_47 : decode cX1_init 47 = .ok (.newarray .int, 2) := by decide +kernel
theorem dX1_init_49 : decode cX1_init 49 = .ok (.putfield 27, 3) := by decide +kernel
theorem dX1_init_52 : decode cX1_init 52 = .ok (.aload_n 0, 1) := by decide +kernel
theorem dX1_init_53 : decode cX1_init 53 = .ok (.bipush 60, 2) := by decide +kernel
theorem dX1_init_55 : decode cX1_init 55 = .ok (.newarray .int, 2) := by decide +kernel
theorem dX1_init_57 : decode cX1_init 57 = .ok (.putfield 30, 3) := by decide +kernel
theorem dX1_init_60 : decode cX1_init 60 = .ok (.aload_n 0, 1) := by decide +kernel
theorem dX1_init_61 : decode cX1_init 61 = .ok (.bipush 60, 2) := by decide +kernel
theorem dX1_init_63 : decode cX1_init 63 = .ok (.newarray .int, 2) := by decide +kernel
theorem dX1_init_65 : decode cX1_init 65 = .ok (.putfield 33, 3) := by decide +kernel
theorem dX1_init_68 : decode cX1_init 68 = .ok (.aload_n 0, 1) := by decide +kernel
theorem dX1_init_69 : decode cX1_init 69 = .ok (.bipush 60, 2) := by decide +kernel
theorem dX1_init_71 : decode cX1_init 71 = .ok (.newarray .int, 2) := by decide +kernel
theorem dX1_init_73 : decode cX1_init 73 = .ok (.putfield 36, 3) := by decide +kernel
theorem dX1_init_76 : decode cX1_init 76 = .ok (.return_, 1) := by decide +kernel
theorem dX1_isFull_0 : decode cX1_isFull 0 = .ok (.aload_n 0, 1) := by decide +kernel
theorem dX1_isFull_1 : decode cX1_isFull 1 = .ok (.getfield 39, 3) := by decide +kernel
theorem dX1_isFull_4 : decode cX1_isFull 4 = .ok (.bipush 60, 2) := by decide +kernel
theorem dX1_isFull_6 : decode cX1_isFull 6 = .ok (.if_icmp .lt 7, 3) := by decide +kernel
theorem dX1_isFull_9 : decode cX1_isFull 9 = .ok (.iconst 1, 1) := by decide +kernel
theorem dX1_isFull_10 : decode cX1_isFull 10 = .ok (.goto 4, 3) := by decide +kernel
theorem dX1_isFull_13 : decode cX1_isFull 13 = .ok (.iconst 0, 1) := by decide +kernel
theorem dX1_isFull_14 : decode cX1_isFull 14 = .ok (.ireturn, 1) := by decide +kernel
theorem dX1_holds_0 : decode cX1_holds 0 = .ok (.iload_n 1, 1) := by decide +kernel
theorem dX1_holds_1 : decode cX1_holds 1 = .ok (.ifCond .lt 21, 3) := by decide +kernel
theorem dX1_holds_4 : decode cX1_holds 4 = .ok (.iload_n 1, 1) := by decide +kernel
theorem dX1_holds_5 : decode cX1_holds 5 = .ok (.aload_n 0, 1) := by decide +kernel
theorem dX1_holds_6 : decode cX1_holds 6 = .ok (.getfield 39, 3) := by decide +kernel
theorem dX1_holds_9 : decode cX1_holds 9 = .ok (.if_icmp .ge 13, 3) := by decide +kernel
theorem dX1_holds_12 : decode cX1_holds 12 = .ok (.iload_n 1, 1) := by decide +kernel
theorem dX1_holds_13 : decode cX1_holds 13 = .ok (.bipush 60, 2) := by decide +kernel
theorem dX1_holds_15 : decode cX1_holds 15 = .ok (.if_icmp .ge 7, 3) := by decide +kernel
theorem dX1_holds_18 : decode cX1_holds 18 = .ok (.iconst 1, 1) := by decide +kernel
theorem dX1_holds_19 : decode cX1_holds 19 = .ok (.goto 4, 3) := by decide +kernel
theorem dX1_holds_22 : decode cX1_holds 22 = .ok (.iconst 0, 1) := by decide +kernel
theorem dX1_holds_23 : decode cX1_holds 23 = .ok (.ireturn, 1) := by decide +kernel
theorem dX1_add_0 : decode cX1_add 0 = .ok (.aload_n 0, 1) := by decide +kernel
theorem dX1_add_1 : decode cX1_add 1 = .ok (.getfield 39, 3) := by decide +kernel
theorem dX1_add_4 : decode cX1_add 4 = .ok (.iconst 0, 1) := by decide +kernel
theorem dX1_add_5 : decode cX1_add 5 = .ok (.bipush 59, 2) := by decide +kernel
theorem dX1_add_7 : decode cX1_add 7 = .ok (.invokestatic 43, 3) := by decide +kernel
theorem dX1_add_10 : decode cX1_add 10 = .ok (.ifCond .ne 5, 3) := by decide +kernel
theorem dX1_add_13 : decode cX1_add 13 = .ok (.iconst 0, 1) := by decide +kernel
theorem dX1_add_14 : decode cX1_add 14 = .ok (.ireturn, 1) := by decide +kernel
theorem dX1_add_15 : decode cX1_add 15 = .ok (.aload_n 0, 1) := by decide +kernel
theorem dX1_add_16 : decode cX1_add 16 = .ok (.getfield 9, 3) := by decide +kernel
theorem dX1_add_19 : decode cX1_add 19 = .ok (.aload_n 0, 1) := by decide +kernel
theorem dX1_add_20 : decode cX1_add 20 = .ok (.getfield 39, 3) := by decide +kernel
theorem dX1_add_23 : decode cX1_add 23 = .ok (.iload_n 1, 1) := by decide +kernel
theorem dX1_add_24 : decode cX1_add 24 = .ok (.iastore, 1) := by decide +kernel
theorem dX1_add_25 : decode cX1_add 25 = .ok (.aload_n 0, 1) := by decide +kernel
theorem dX1_add_26 : decode cX1_add 26 = .ok (.getfield 15, 3) := by decide +kernel
theorem dX1_add_29 : decode cX1_add 29 = .ok (.aload_n 0, 1) := by decide +kernel
theorem dX1_add_30 : decode cX1_add 30 = .ok (.getfield 39, 3) := by decide +kernel
theorem dX1_add_33 : decode cX1_add 33 = .ok (.iload_n 2, 1) := by decide +kernel
theorem dX1_add_34 : decode cX1_add 34 = .ok (.iastore, 1) := by decide +kernel
theorem dX1_add_35 : decode cX1_add 35 = .ok (.aload_n 0, 1) := by decide +kernel
theorem dX1_add_36 : decode cX1_add 36 = .ok (.getfield 18, 3) := by decide +kernel
theorem dX1_add_39 : decode cX1_add 39 = .ok (.aload_n 0, 1) := by decide +kernel
theorem dX1_add_40 : decode cX1_add 40 = .ok (.getfield 39, 3) := by decide +kernel
theorem dX1_add_43 : decode cX1_add 43 = .ok (.iconst 0, 1) := by decide +kernel
theorem dX1_add_44 : decode cX1_add 44 = .ok (.iastore, 1) := by decide +kernel
theorem dX1_add_45 : decode cX1_add 45 = .ok (.aload_n 0, 1) := by decide +kernel
theorem dX1_add_46 : decode cX1_add 46 = .ok (.getfield 21, 3) := by decide +kernel
theorem dX1_add_49 : decode cX1_add 49 = .ok (.aload_n 0, 1) := by decide +kernel
theorem dX1_add_50 : decode cX1_add 50 = .ok (.getfield 39, 3) := by decide +kernel
theorem dX1_add_53 : decode cX1_add 53 = .ok (.iconst 0, 1) := by decide +kernel
theorem dX1_add_54 : decode cX1_add 54 = .ok (.iastore, 1) := by decide +kernel
theorem dX1_add_55 : decode cX1_add 55 = .ok (.aload_n 0, 1) := by decide +kernel
theorem dX1_add_56 : decode cX1_add 56 = .ok (.getfield 24, 3) := by decide +kernel
theorem dX1_add_59 : decode cX1_add 59 = .ok (.aload_n 0, 1) := by decide +kernel
theorem dX1_add_60 : decode cX1_add 60 = .ok (.getfield 39, 3) := by decide +kernel
theorem dX1_add_63 : decode cX1_add 63 = .ok (.iconst 0, 1) := by decide +kernel
theorem dX1_add_64 : decode cX1_add 64 = .ok (.iastore, 1) := by decide +kernel
theorem dX1_add_65 : decode cX1_add 65 = .ok (.aload_n 0, 1) := by decide +kernel
theorem dX1_add_66 : decode cX1_add 66 = .ok (.getfield 27, 3) := by decide +kernel
theorem dX1_add_69 : decode cX1_add 69 = .ok (.aload_n 0, 1) := by decide +kernel
theorem dX1_add_70 : decode cX1_add 70 = .ok (.getfield 39, 3) := by decide +kernel
theorem dX1_add_73 : decode cX1_add 73 = .ok (.iload_n 3, 1) := by decide +kernel
theorem dX1_add_74 : decode cX1_add 74 = .ok (.iastore, 1) := by decide +kernel
theorem dX1_add_75 : decode cX1_add 75 = .ok (.aload_n 0, 1) := by decide +kernel
theorem dX1_add_76 : decode cX1_add 76 = .ok (.getfield 30, 3) := by decide +kernel
theorem dX1_add_79 : decode cX1_add 79 = .ok (.aload_n 0, 1) := by decide +kernel
theorem dX1_add_80 : decode cX1_add 80 = .ok (.getfield 39, 3) := by decide +kernel
theorem dX1_add_83 : decode cX1_add 83 = .ok (.aload_n 0, 1) := by decide +kernel
theorem dX1_add_84 : decode cX1_add 84 = .ok (.getfield 39, 3) := by decide +kernel
theorem dX1_add_87 : decode cX1_add 87 = .ok (.iconst 1, 1) := by decide +kernel
theorem dX1_add_88 : decode cX1_add 88 = .ok (.iadd, 1) := by decide +kernel
theorem dX1_add_89 : decode cX1_add 89 = .ok (.iastore, 1) := by decide +kernel
theorem dX1_add_90 : decode cX1_add 90 = .ok (.aload_n 0, 1) := by decide +kernel
theorem dX1_add_91 : decode cX1_add 91 = .ok (.getfield 33, 3) := by decide +kernel
theorem dX1_add_94 : decode cX1_add 94 = .ok (.aload_n 0, 1) := by decide +kernel
theorem dX1_add_95 : decode cX1_add 95 = .ok (.getfield 39, 3) := by decide +kernel
theorem dX1_add_98 : decode cX1_add 98 = .ok (.aload_n 0, 1) := by decide +kernel
theorem dX1_add_99 : decode cX1_add 99 = .ok (.getfield 39, 3) := by decide +kernel
theorem dX1_add_102 : decode cX1_add 102 = .ok (.iconst 1, 1) := by decide +kernel
theorem dX1_add_103 : decode cX1_add 103 = .ok (.iadd, 1) := by decide +kernel
theorem dX1_add_104 : decode cX1_add 104 = .ok (.iastore, 1) := by decide +kernel
theorem dX1_add_105 : decode cX1_add 105 = .ok (.aload_n 0, 1) := by decide +kernel
theorem dX1_add_106 : decode cX1_add 106 = .ok (.dup, 1) := by decide +kernel
theorem dX1_add_107 : decode cX1_add 107 = .ok (.getfield 39, 3) := by decide +kernel
theorem dX1_add_110 : decode cX1_add 110 = .ok (.iconst 1, 1) := by decide +kernel
theorem dX1_add_111 : decode cX1_add 111 = .ok (.iadd, 1) := by decide +kernel
theorem dX1_add_112 : decode cX1_add 112 = .ok (.putfield 39, 3) := by decide +kernel
theorem dX1_add_115 : decode cX1_add 115 = .ok (.iconst 1, 1) := by decide +kernel
theorem dX1_add_116 : decode cX1_add 116 = .ok (.ireturn, 1) := by decide +kernel
theorem dX1_setTerms_0 : decode cX1_setTerms 0 = .ok (.aload_n 0, 1) := by decide +kernel
theorem dX1_setTerms_1 : decode cX1_setTerms 1 = .ok (.getfield 39, 3) := by decide +kernel
theorem dX1_setTerms_4 : decode cX1_setTerms 4 = .ok (.iconst 1, 1) := by decide +kernel
theorem dX1_setTerms_5 : decode cX1_setTerms 5 = .ok (.isub, 1) := by decide +kernel
theorem dX1_setTerms_6 : decode cX1_setTerms 6 = .ok (.istore 4, 2) := by decide +kernel
theorem dX1_setTerms_8 : decode cX1_setTerms 8 = .ok (.aload_n 0, 1) := by decide +kernel
theorem dX1_setTerms_9 : decode cX1_setTerms 9 = .ok (.iload 4, 2) := by decide +kernel
theorem dX1_setTerms_11 : decode cX1_setTerms 11 = .ok (.invokevirtual 47, 3) := by decide +kernel
theorem dX1_setTerms_14 : decode cX1_setTerms 14 = .ok (.ifCond .eq 27, 3) := by decide +kernel
theorem dX1_setTerms_17 : decode cX1_setTerms 17 = .ok (.aload_n 0, 1) := by decide +kernel
theorem dX1_setTerms_18 : decode cX1_setTerms 18 = .ok (.getfield 18, 3) := by decide +kernel
theorem dX1_setTerms_21 : decode cX1_setTerms 21 = .ok (.iload 4, 2) := by decide +kernel
theorem dX1_setTerms_23 : decode cX1_setTerms 23 = .ok (.iload_n 1, 1) := by decide +kernel
theorem dX1_setTerms_24 : decode cX1_setTerms 24 = .ok (.iastore, 1) := by decide +kernel
theorem dX1_setTerms_25 : decode cX1_setTerms 25 = .ok (.aload_n 0, 1) := by decide +kernel
theorem dX1_setTerms_26 : decode cX1_setTerms 26 = .ok (.getfield 21, 3) := by decide +kernel
theorem dX1_setTerms_29 : decode cX1_setTerms 29 = .ok (.iload 4, 2) := by decide +kernel
theorem dX1_setTerms_31 : decode cX1_setTerms 31 = .ok (.iload_n 2, 1) := by decide +kernel
theorem dX1_setTerms_32 : decode cX1_setTerms 32 = .ok (.iastore, 1) := by decide +kernel
theorem dX1_setTerms_33 : decode cX1_setTerms 33 = .ok (.aload_n 0, 1) := by decide +kernel
theorem dX1_setTerms_34 : decode cX1_setTerms 34 = .ok (.getfield 24, 3) := by decide +kernel
theorem dX1_setTerms_37 : decode cX1_setTerms 37 = .ok (.iload 4, 2) := by decide +kernel
theorem dX1_setTerms_39 : decode cX1_setTerms 39 = .ok (.iload_n 3, 1) := by decide +kernel
theorem dX1_setTerms_40 : decode cX1_setTerms 40 = .ok (.iastore, 1) := by decide +kernel
theorem dX1_setTerms_41 : decode cX1_setTerms 41 = .ok (.return_, 1) := by decide +kernel
theorem dX1_endFirstPart_0 : decode cX1_endFirstPart 0 = .ok (.aload_n 0, 1) := by decide +kernel
theorem dX1_endFirstPart_1 : decode cX1_endFirstPart 1 = .ok (.iload_n 1, 1) := by decide +kernel
theorem dX1_endFirstPart_2 : decode cX1_endFirstPart 2 = .ok (.invokevirtual 47, 3) := by decide +kernel
theorem dX1_endFirstPart_5 : decode cX1_endFirstPart 5 = .ok (.ifCond .eq 13, 3) := by decide +kernel
theorem dX1_endFirstPart_8 : decode cX1_endFirstPart 8 = .ok (.aload_n 0, 1) := by decide +kernel
theorem dX1_endFirstPart_9 : decode cX1_endFirstPart 9 = .ok (.getfield 30, 3) := by decide +kernel
theorem dX1_endFirstPart_12 : decode cX1_endFirstPart 12 = .ok (.iload_n 1, 1) := by decide +kernel
theorem dX1_endFirstPart_13 : decode cX1_endFirstPart 13 = .ok (.aload_n 0, 1) := by decide +kernel
theorem dX1_endFirstPart_14 : decode cX1_endFirstPart 14 = .ok (.getfield 39, 3) := by decide +kernel
theorem dX1_endFirstPart_17 : decode cX1_endFirstPart 17 = .ok (.iastore, 1) := by decide +kernel
theorem dX1_endFirstPart_18 : decode cX1_endFirstPart 18 = .ok (.return_, 1) := by decide +kernel
theorem dX1_close_0 : decode cX1_close 0 = .ok (.aload_n 0, 1) := by decide +kernel
theorem dX1_close_1 : decode cX1_close 1 = .ok (.iload_n 1, 1) := by decide +kernel
theorem dX1_close_2 : decode cX1_close 2 = .ok (.invokevirtual 47, 3) := by decide +kernel
theorem dX1_close_5 : decode cX1_close 5 = .ok (.ifCond .eq 33, 3) := by decide +kernel
theorem dX1_close_8 : decode cX1_close 8 = .ok (.aload_n 0, 1) := by decide +kernel
theorem dX1_close_9 : decode cX1_close 9 = .ok (.getfield 33, 3) := by decide +kernel
theorem dX1_close_12 : decode cX1_close 12 = .ok (.iload_n 1, 1) := by decide +kernel
theorem dX1_close_13 : decode cX1_close 13 = .ok (.aload_n 0, 1) := by decide +kernel
theorem dX1_close_14 : decode cX1_close 14 = .ok (.getfield 39, 3) := by decide +kernel
theorem dX1_close_17 : decode cX1_close 17 = .ok (.iastore, 1) := by decide +kernel
theorem dX1_close_18 : decode cX1_close 18 = .ok (.aload_n 0, 1) := by decide +kernel
theorem dX1_close_19 : decode cX1_close 19 = .ok (.getfield 9, 3) := by decide +kernel
theorem dX1_close_22 : decode cX1_close 22 = .ok (.iload_n 1, 1) := by decide +kernel
theorem dX1_close_23 : decode cX1_close 23 = .ok (.iaload, 1) := by decide +kernel
theorem dX1_close_24 : decode cX1_close 24 = .ok (.iconst 4, 1) := by decide +kernel
theorem dX1_close_25 : decode cX1_close 25 = .ok (.if_icmp .ne 13, 3) := by decide +kernel
theorem dX1_close_28 : decode cX1_close 28 = .ok (.aload_n 0, 1) := by decide +kernel
theorem dX1_close_29 : decode cX1_close 29 = .ok (.getfield 30, 3) := by decide +kernel
theorem dX1_close_32 : decode cX1_close 32 = .ok (.iload_n 1, 1) := by decide +kernel
theorem dX1_close_33 : decode cX1_close 33 = .ok (.aload_n 0, 1) := by decide +kernel
theorem dX1_close_34 : decode cX1_close 34 = .ok (.getfield 39, 3) := by decide +kernel
theorem dX1_close_37 : decode cX1_close 37 = .ok (.iastore, 1) := by decide +kernel
theorem dX1_close_38 : decode cX1_close 38 = .ok (.return_, 1) := by decide +kernel
theorem dX1_takeFrom_0 : decode cX1_takeFrom 0 = .ok (.aload_n 0, 1) := by decide +kernel
theorem dX1_takeFrom_1 : decode cX1_takeFrom 1 = .ok (.aload_n 1, 1) := by decide +kernel
theorem dX1_takeFrom_2 : decode cX1_takeFrom 2 = .ok (.getfield 39, 3) := by decide +kernel
theorem dX1_takeFrom_5 : decode cX1_takeFrom 5 = .ok (.putfield 39, 3) := by decide +kernel
theorem dX1_takeFrom_8 : decode cX1_takeFrom 8 = .ok (.aload_n 1, 1) := by decide +kernel
theorem dX1_takeFrom_9 : decode cX1_takeFrom 9 = .ok (.getfield 9, 3) := by decide +kernel
theorem dX1_takeFrom_12 : decode cX1_takeFrom 12 = .ok (.iconst 0, 1) := by decide +kernel
theorem dX1_takeFrom_13 : decode cX1_takeFrom 13 = .ok (.aload_n 0, 1) := by decide +kernel
theorem dX1_takeFrom_14 : decode cX1_takeFrom 14 = .ok (.getfield 9, 3) := by decide +kernel
theorem dX1_takeFrom_17 : decode cX1_takeFrom 17 = .ok (.iconst 0, 1) := by decide +kernel
theorem dX1_takeFrom_18 : decode cX1_takeFrom 18 = .ok (.bipush 60, 2) := by decide +kernel
theorem dX1_takeFrom_20 : decode cX1_takeFrom 20 = .ok (.invokestatic 51, 3) := by decide +kernel
theorem dX1_takeFrom_23 : decode cX1_takeFrom 23 = .ok (.aload_n 1, 1) := by decide +kernel
theorem dX1_takeFrom_24 : decode cX1_takeFrom 24 = .ok (.getfield 15, 3) := by decide +kernel
theorem dX1_takeFrom_27 : decode cX1_takeFrom 27 = .ok (.iconst 0, 1) := by decide +kernel
theorem dX1_takeFrom_28 : decode cX1_takeFrom 28 = .ok (.aload_n 0, 1) := by decide +kernel
theorem dX1_takeFrom_29 : decode cX1_takeFrom 29 = .ok (.getfield 15, 3) := by decide +kernel
theorem dX1_takeFrom_32 : decode cX1_takeFrom 32 = .ok (.iconst 0, 1) := by decide +kernel
theorem dX1_takeFrom_33 : decode cX1_takeFrom 33 = .ok (.bipush 60, 2) := by decide +kernel
theorem dX1_takeFrom_35 : decode cX1_takeFrom 35 = .ok (.invokestatic 51, 3) := by decide +kernel
theorem dX1_takeFrom_38 : decode cX1_takeFrom 38 = .ok (.aload_n 1, 1) := by decide +kernel
theorem dX1_takeFrom_39 : decode cX1_takeFrom 39 = .ok (.getfield 18, 3) := by decide +kernel
theorem dX1_takeFrom_42 : decode cX1_takeFrom 42 = .ok (.iconst 0, 1) := by decide +kernel
theorem dX1_takeFrom_43 : decode cX1_takeFrom 43 = .ok (.aload_n 0, 1) := by decide +kernel
theorem dX1_takeFrom_44 : decode cX1_takeFrom 44 = .ok (.getfield 18, 3) := by decide +kernel
theorem dX1_takeFrom_47 : decode cX1_takeFrom 47 = .ok (.iconst 0, 1) := by decide +kernel
theorem dX1_takeFrom_48 : decode cX1_takeFrom 48 = .ok (.bipush 60, 2) := by decide +kernel
theorem dX1_takeFrom_50 : decode cX1_takeFrom 50 = .ok (.invokestatic 51, 3) := by decide +kernel
theorem dX1_takeFrom_53 : decode cX1_takeFrom 53 = .ok (.aload_n 1, 1) := by decide +kernel
theorem dX1_takeFrom_54 : decode cX1_takeFrom 54 = .ok (.getfield 21, 3) := by decide +kernel
theorem dX1_takeFrom_57 : decode cX1_takeFrom 57 = .ok (.iconst 0, 1) := by decide +kernel
theorem dX1_takeFrom_58 : decode cX1_takeFrom 58 = .ok (.aload_n 0, 1) := by decide +kernel
theorem dX1_takeFrom_59 : decode cX1_takeFrom 59 = .ok (.getfield 21, 3) := by decide +kernel
theorem dX1_takeFrom_62 : decode cX1_takeFrom 62 = .ok (.iconst 0, 1) := by decide +kernel
theorem dX1_takeFrom_63 : decode cX1_takeFrom 63 = .ok (.bipush 60, 2) := by decide +kernel
theorem dX1_takeFrom_65 : decode cX1_takeFrom 65 = .ok (.invokestatic 51, 3) := by decide +kernel
theorem dX1_takeFrom_68 : decode cX1_takeFrom 68 = .ok (.aload_n 1, 1) := by decide +kernel
theorem dX1_takeFrom_69 : decode cX1_takeFrom 69 = .ok (.getfield 24, 3) := by decide +kernel
theorem dX1_takeFrom_72 : decode cX1_takeFrom 72 = .ok (.iconst 0, 1) := by decide +kernel
theorem dX1_takeFrom_73 : decode cX1_takeFrom 73 = .ok (.aload_n 0, 1) := by decide +kernel
theorem dX1_takeFrom_74 : decode cX1_takeFrom 74 = .ok (.getfield 24, 3) := by decide +kernel
theorem dX1_takeFrom_77 : decode cX1_takeFrom 77 = .ok (.iconst 0, 1) := by decide +kernel
theorem dX1_takeFrom_78 : decode cX1_takeFrom 78 = .ok (.bipush 60, 2) := by decide +kernel
theorem dX1_takeFrom_80 : decode cX1_takeFrom 80 = .ok (.invokestatic 51, 3) := by decide +kernel
theorem dX1_takeFrom_83 : decode cX1_takeFrom 83 = .ok (.aload_n 1, 1) := by decide +kernel
theorem dX1_takeFrom_84 : decode cX1_takeFrom 84 = .ok (.getfield 27, 3) := by decide +kernel
theorem dX1_takeFrom_87 : decode cX1_takeFrom 87 = .ok (.iconst 0, 1) := by decide +kernel
theorem dX1_takeFrom_88 : decode cX1_takeFrom 88 = .ok (.aload_n 0, 1) := by decide +kernel
theorem dX1_takeFrom_89 : decode cX1_takeFrom 89 = .ok (.getfield 27, 3) := by decide +kernel
theorem dX1_takeFrom_92 : decode cX1_takeFrom 92 = .ok (.iconst 0, 1) := by decide +kernel
theorem dX1_takeFrom_93 : decode cX1_takeFrom 93 = .ok (.bipush 60, 2) := by decide +kernel
theorem dX1_takeFrom_95 : decode cX1_takeFrom 95 = .ok (.invokestatic 51, 3) := by decide +kernel
theorem dX1_takeFrom_98 : decode cX1_takeFrom 98 = .ok (.aload_n 1, 1) := by decide +kernel
theorem dX1_takeFrom_99 : decode cX1_takeFrom 99 = .ok (.getfield 30, 3) := by decide +kernel
theorem dX1_takeFrom_102 : decode cX1_takeFrom 102 = .ok (.iconst 0, 1) := by decide +kernel
theorem dX1_takeFrom_103 : decode cX1_takeFrom 103 = .ok (.aload_n 0, 1) := by decide +kernel
theorem dX1_takeFrom_104 : decode cX1_takeFrom 104 = .ok (.getfield 30, 3) := by decide +kernel
theorem dX1_takeFrom_107 : decode cX1_takeFrom 107 = .ok (.iconst 0, 1) := by decide +kernel
theorem dX1_takeFrom_108 : decode cX1_takeFrom 108 = .ok (.bipush 60, 2) := by decide +kernel
theorem dX1_takeFrom_110 : decode cX1_takeFrom 110 = .ok (.invokestatic 51, 3) := by decide +kernel
theorem dX1_takeFrom_113 : decode cX1_takeFrom 113 = .ok (.aload_n 1, 1) := by decide +kernel
theorem dX1_takeFrom_114 : decode cX1_takeFrom 114 = .ok (.getfield 33, 3) := by decide +kernel
theorem dX1_takeFrom_117 : decode cX1_takeFrom 117 = .ok (.iconst 0, 1) := by decide +kernel
theorem dX1_takeFrom_118 : decode cX1_takeFrom 118 = .ok (.aload_n 0, 1) := by decide +kernel
theorem dX1_takeFrom_119 : decode cX1_takeFrom 119 = .ok (.getfield 33, 3) := by decide +kernel
theorem dX1_takeFrom_122 : decode cX1_takeFrom 122 = .ok (.iconst 0, 1) := by decide +kernel
theorem dX1_takeFrom_123 : decode cX1_takeFrom 123 = .ok (.bipush 60, 2) := by decide +kernel
theorem dX1_takeFrom_125 : decode cX1_takeFrom 125 = .ok (.invokestatic 51, 3) := by decide +kernel
theorem dX1_takeFrom_128 : decode cX1_takeFrom 128 = .ok (.aload_n 1, 1) := by decide +kernel
theorem dX1_takeFrom_129 : decode cX1_takeFrom 129 = .ok (.getfield 36, 3) := by decide +kernel
theorem dX1_takeFrom_132 : decode cX1_takeFrom 132 = .ok (.iconst 0, 1) := by decide +kernel
theorem dX1_takeFrom_133 : decode cX1_takeFrom 133 = .ok (.aload_n 0, 1) := by decide +kernel
theorem dX1_takeFrom_134 : decode cX1_takeFrom 134 = .ok (.getfield 36, 3) := by decide +kernel
theorem dX1_takeFrom_137 : decode cX1_takeFrom 137 = .ok (.iconst 0, 1) := by decide +kernel
theorem dX1_takeFrom_138 : decode cX1_takeFrom 138 = .ok (.bipush 60, 2) := by decide +kernel
theorem dX1_takeFrom_140 : decode cX1_takeFrom 140 = .ok (.invokestatic 51, 3) := by decide +kernel
theorem dX1_takeFrom_143 : decode cX1_takeFrom 143 = .ok (.return_, 1) := by decide +kernel
theorem dX1_remove_0 : decode cX1_remove 0 = .ok (.aload_n 0, 1) := by decide +kernel
theorem dX1_remove_1 : decode cX1_remove 1 = .ok (.iload_n 1, 1) := by decide +kernel
theorem dX1_remove_2 : decode cX1_remove 2 = .ok (.invokevirtual 47, 3) := by decide +kernel
theorem dX1_remove_5 : decode cX1_remove 5 = .ok (.ifCond .ne 4, 3) := by decide +kernel
theorem dX1_remove_8 : decode cX1_remove 8 = .ok (.return_, 1) := by decide +kernel
theorem dX1_remove_9 : decode cX1_remove 9 = .ok (.aload_n 0, 1) := by decide +kernel
theorem dX1_remove_10 : decode cX1_remove 10 = .ok (.getfield 33, 3) := by decide +kernel
theorem dX1_remove_13 : decode cX1_remove 13 = .ok (.iload_n 1, 1) := by decide +kernel
theorem dX1_remove_14 : decode cX1_remove 14 = .ok (.iaload, 1) := by decide +kernel
theorem dX1_remove_15 : decode cX1_remove 15 = .ok (.iload_n 1, 1) := by decide +kernel
theorem dX1_remove_16 : decode cX1_remove 16 = .ok (.isub, 1) := by decide +kernel
theorem dX1_remove_17 : decode cX1_remove 17 = .ok (.istore_n 2, 1) := by decide +kernel
theorem dX1_remove_18 : decode cX1_remove 18 = .ok (.aload_n 0, 1) := by decide +kernel
theorem dX1_remove_19 : decode cX1_remove 19 = .ok (.getfield 33, 3) := by decide +kernel
theorem dX1_remove_22 : decode cX1_remove 22 = .ok (.iload_n 1, 1) := by decide +kernel
theorem dX1_remove_23 : decode cX1_remove 23 = .ok (.iaload, 1) := by decide +kernel
theorem dX1_remove_24 : decode cX1_remove 24 = .ok (.istore_n 3, 1) := by decide +kernel
theorem dX1_remove_25 : decode cX1_remove 25 = .ok (.iload_n 3, 1) := by decide +kernel
theorem dX1_remove_26 : decode cX1_remove 26 = .ok (.aload_n 0, 1) := by decide +kernel
theorem dX1_remove_27 : decode cX1_remove 27 = .ok (.getfield 39, 3) := by decide +kernel
theorem dX1_remove_30 : decode cX1_remove 30 = .ok (.if_icmp .ge 17, 3) := by decide +kernel
theorem dX1_remove_33 : decode cX1_remove 33 = .ok (.aload_n 0, 1) := by decide +kernel
theorem dX1_remove_34 : decode cX1_remove 34 = .ok (.iload_n 3, 1) := by decide +kernel
theorem dX1_remove_35 : decode cX1_remove 35 = .ok (.iload_n 3, 1) := by decide +kernel
theorem dX1_remove_36 : decode cX1_remove 36 = .ok (.iload_n 2, 1) := by decide +kernel
theorem dX1_remove_37 : decode cX1_remove 37 = .ok (.isub, 1) := by decide +kernel
theorem dX1_remove_38 : decode cX1_remove 38 = .ok (.invokevirtual 57, 3) := by decide +kernel
theorem dX1_remove_41 : decode cX1_remove 41 = .ok (.iinc 3 1, 3) := by decide +kernel
theorem dX1_remove_44 : decode cX1_remove 44 = .ok (.goto (-19), 3) := by decide +kernel
theorem dX1_remove_47 : decode cX1_remove 47 = .ok (.aload_n 0, 1) := by decide +kernel
theorem dX1_remove_48 : decode cX1_remove 48 = .ok (.dup, 1) := by decide +kernel
theorem dX1_remove_49 : decode cX1_remove 49 = .ok (.getfield 39, 3) := by decide +kernel
theorem dX1_remove_52 : decode cX1_remove 52 = .ok (.iload_n 2, 1) := by decide +kernel
theorem dX1_remove_53 : decode cX1_remove 53 = .ok (.isub, 1) := by decide +kernel
theorem dX1_remove_54 : decode cX1_remove 54 = .ok (.putfield 39, 3) := by decide +kernel
theorem dX1_remove_57 : decode cX1_remove 57 = .ok (.iconst 0, 1) := by decide +kernel
theorem dX1_remove_58 : decode cX1_remove 58 = .ok (.istore_n 3, 1) := by decide +kernel
theorem dX1_remove_59 : decode cX1_remove 59 = .ok (.iload_n 3, 1) := by decide +kernel
theorem dX1_remove_60 : decode cX1_remove 60 = .ok (.aload_n 0, 1) := by decide +kernel
theorem dX1_remove_61 : decode cX1_remove 61 = .ok (.getfield 39, 3) := by decide +kernel
theorem dX1_remove_64 : decode cX1_remove 64 = .ok (.if_icmp .ge 66, 3) := by decide +kernel
theorem dX1_remove_67 : decode cX1_remove 67 = .ok (.iload_n 3, 1) := by decide +kernel
theorem dX1_remove_68 : decode cX1_remove 68 = .ok (.bipush 60, 2) := by decide +kernel
theorem dX1_remove_70 : decode cX1_remove 70 = .ok (.if_icmp .ge 60, 3) := by decide +kernel
theorem dX1_remove_73 : decode cX1_remove 73 = .ok (.aload_n 0, 1) := by decide +kernel
theorem dX1_remove_74 : decode cX1_remove 74 = .ok (.getfield 27, 3) := by decide +kernel
theorem dX1_remove_77 : decode cX1_remove 77 = .ok (.iload_n 3, 1) := by decide +kernel
theorem dX1_remove_78 : decode cX1_remove 78 = .ok (.aload_n 0, 1) := by decide +kernel
theorem dX1_remove_79 : decode cX1_remove 79 = .ok (.getfield 27, 3) := by decide +kernel
theorem dX1_remove_82 : decode cX1_remove 82 = .ok (.iload_n 3, 1) := by decide +kernel
theorem dX1_remove_83 : decode cX1_remove 83 = .ok (.iaload, 1) := by decide +kernel
theorem dX1_remove_84 : decode cX1_remove 84 = .ok (.iload_n 1, 1) := by decide +kernel
theorem dX1_remove_85 : decode cX1_remove 85 = .ok (.iload_n 2, 1) := by decide +kernel
theorem dX1_remove_86 : decode cX1_remove 86 = .ok (.invokestatic 61, 3) := by decide +kernel
theorem dX1_remove_89 : decode cX1_remove 89 = .ok (.iastore, 1) := by decide +kernel
theorem dX1_remove_90 : decode cX1_remove 90 = .ok (.aload_n 0, 1) := by decide +kernel
theorem dX1_remove_91 : decode cX1_remove 91 = .ok (.getfield 30, 3) := by decide +kernel
theorem dX1_remove_94 : decode cX1_remove 94 = .ok (.iload_n 3, 1) := by decide +kernel
theorem dX1_remove_95 : decode cX1_remove 95 = .ok (.aload_n 0, 1) := by decide +kernel
theorem dX1_remove_96 : decode cX1_remove 96 = .ok (.getfield 30, 3) := by decide +kernel
theorem dX1_remove_99 : decode cX1_remove 99 = .ok (.iload_n 3, 1) := by decide +kernel
theorem dX1_remove_100 : decode cX1_remove 100 = .ok (.iaload, 1) := by decide +kernel
theorem dX1_remove_101 : decode cX1_remove 101 = .ok (.iload_n 1, 1) := by decide +kernel
theorem dX1_remove_102 : decode cX1_remove 102 = .ok (.iload_n 2, 1) := by decide +kernel
theorem dX1_remove_103 : decode cX1_remove 103 = .ok (.invokestatic 61, 3) := by decide +kernel
theorem dX1_remove_106 : decode cX1_remove 106 = .ok (.iastore, 1) := by decide +kernel
theorem dX1_remove_107 : decode cX1_remove 107 = .ok (.aload_n 0, 1) := by decide +kernel
theorem dX1_remove_108 : decode cX1_remove 108 = .ok (.getfield 33, 3) := by decide +kernel
theorem dX1_remove_111 : decode cX1_remove 111 = .ok (.iload_n 3, 1) := by decide +kernel
theorem dX1_remove_112 : decode cX1_remove 112 = .ok (.aload_n 0, 1) := by decide +kernel
theorem dX1_remove_113 : decode cX1_remove 113 = .ok (.getfield 33, 3) := by decide +kernel
theorem dX1_remove_116 : decode cX1_remove 116 = .ok (.iload_n 3, 1) := by decide +kernel
theorem dX1_remove_117 : decode cX1_remove 117 = .ok (.iaload, 1) := by decide +kernel
theorem dX1_remove_118 : decode cX1_remove 118 = .ok (.iload_n 1, 1) := by decide +kernel
theorem dX1_remove_119 : decode cX1_remove 119 = .ok (.iload_n 2, 1) := by decide +kernel
theorem dX1_remove_120 : decode cX1_remove 120 = .ok (.invokestatic 61, 3) := by decide +kernel
theorem dX1_remove_123 : decode cX1_remove 123 = .ok (.iastore, 1) := by decide +kernel
theorem dX1_remove_124 : decode cX1_remove 124 = .ok (.iinc 3 1, 3) := by decide +kernel
theorem dX1_remove_127 : decode cX1_remove 127 = .ok (.goto (-68), 3) := by decide +kernel
theorem dX1_remove_130 : decode cX1_remove 130 = .ok (.aload_n 0, 1) := by decide +kernel
theorem dX1_remove_131 : decode cX1_remove 131 = .ok (.invokevirtual 65, 3) := by decide +kernel
theorem dX1_remove_134 : decode cX1_remove 134 = .ok (.return_, 1) := by decide +kernel
theorem dX1_moveDown_0 : decode cX1_moveDown 0 = .ok (.aload_n 0, 1) := by decide +kernel
theorem dX1_moveDown_1 : decode cX1_moveDown 1 = .ok (.iload_n 1, 1) := by decide +kernel
theorem dX1_moveDown_2 : decode cX1_moveDown 2 = .ok (.invokevirtual 47, 3) := by decide +kernel
theorem dX1_moveDown_5 : decode cX1_moveDown 5 = .ok (.ifCond .eq 107, 3) := by decide +kernel
theorem dX1_moveDown_8 : decode cX1_moveDown 8 = .ok (.aload_n 0, 1) := by decide +kernel
theorem dX1_moveDown_9 : decode cX1_moveDown 9 = .ok (.iload_n 2, 1) := by decide +kernel
theorem dX1_moveDown_10 : decode cX1_moveDown 10 = .ok (.invokevirtual 47, 3) := by decide +kernel
theorem dX1_moveDown_13 : decode cX1_moveDown 13 = .ok (.ifCond .eq 99, 3) := by decide +kernel
theorem dX1_moveDown_16 : decode cX1_moveDown 16 = .ok (.aload_n 0, 1) := by decide +kernel
theorem dX1_moveDown_17 : decode cX1_moveDown 17 = .ok (.getfield 9, 3) := by decide +kernel
theorem dX1_moveDown_20 : decode cX1_moveDown 20 = .ok (.iload_n 2, 1) := by decide +kernel
theorem dX1_moveDown_21 : decode cX1_moveDown 21 = .ok (.aload_n 0, 1) := by decide +kernel
theorem dX1_moveDown_22 : decode cX1_moveDown 22 = .ok (.getfield 9, 3) := by decide +kernel
theorem dX1_moveDown_25 : decode cX1_moveDown 25 = .ok (.iload_n 1, 1) := by decide +kernel
theorem dX1_moveDown_26 : decode cX1_moveDown 26 = .ok (.iaload, 1) := by decide +kernel
theorem dX1_moveDown_27 : decode cX1_moveDown 27 = .ok (.iastore, 1) := by decide +kernel
theorem dX1_moveDown_28 : decode cX1_moveDown 28 = .ok (.aload_n 0, 1) := by decide +kernel
theorem dX1_moveDown_29 : decode cX1_moveDown 29 = .ok (.getfield 15, 3) := by decide +kernel
theorem dX1_moveDown_32 : decode cX1_moveDown 32 = .ok (.iload_n 2, 1) := by decide +kernel
theorem dX1_moveDown_33 : decode cX1_moveDown 33 = .ok (.aload_n 0, 1) := by decide +kernel
theorem dX1_moveDown_34 : decode cX1_moveDown 34 = .ok (.getfield 15, 3) := by decide +kernel
theorem dX1_moveDown_37 : decode cX1_moveDown 37 = .ok (.iload_n 1, 1) := by decide +kernel
theorem dX1_moveDown_38 : decode cX1_moveDown 38 = .ok (.iaload, 1) := by decide +kernel
theorem dX1_moveDown_39 : decode cX1_moveDown 39 = .ok (.iastore, 1) := by decide +kernel
theorem dX1_moveDown_40 : decode cX1_moveDown 40 = .ok (.aload_n 0, 1) := by decide +kernel
theorem dX1_moveDown_41 : decode cX1_moveDown 41 = .ok (.getfield 18, 3) := by decide +kernel
theorem dX1_moveDown_44 : decode cX1_moveDown 44 = .ok (.iload_n 2, 1) := by decide +kernel
theorem dX1_moveDown_45 : decode cX1_moveDown 45 = .ok (.aload_n 0, 1) := by decide +kernel
theorem dX1_moveDown_46 : decode cX1_moveDown 46 = .ok (.getfield 18, 3) := by decide +kernel
theorem dX1_moveDown_49 : decode cX1_moveDown 49 = .ok (.iload_n 1, 1) := by decide +kernel
theorem dX1_moveDown_50 : decode cX1_moveDown 50 = .ok (.iaload, 1) := by decide +kernel
theorem dX1_moveDown_51 : decode cX1_moveDown 51 = .ok (.iastore, 1) := by decide +kernel
theorem dX1_moveDown_52 : decode cX1_moveDown 52 = .ok (.aload_n 0, 1) := by decide +kernel
theorem dX1_moveDown_53 : decode cX1_moveDown 53 = .ok (.getfield 21, 3) := by decide +kernel
theorem dX1_moveDown_56 : decode cX1_moveDown 56 = .ok (.iload_n 2, 1) := by decide +kernel
theorem dX1_moveDown_57 : decode cX1_moveDown 57 = .ok (.aload_n 0, 1) := by decide +kernel
theorem dX1_moveDown_58 : decode cX1_moveDown 58 = .ok (.getfield 21, 3) := by decide +kernel
theorem dX1_moveDown_61 : decode cX1_moveDown 61 = .ok (.iload_n 1, 1) := by decide +kernel
theorem dX1_moveDown_62 : decode cX1_moveDown 62 = .ok (.iaload, 1) := by decide +kernel
theorem dX1_moveDown_63 : decode cX1_moveDown 63 = .ok (.iastore, 1) := by decide +kernel
theorem dX1_moveDown_64 : decode cX1_moveDown 64 = .ok (.aload_n 0, 1) := by decide +kernel
theorem dX1_moveDown_65 : decode cX1_moveDown 65 = .ok (.getfield 24, 3) := by decide +kernel
theorem dX1_moveDown_68 : decode cX1_moveDown 68 = .ok (.iload_n 2, 1) := by decide +kernel
theorem dX1_moveDown_69 : decode cX1_moveDown 69 = .ok (.aload_n 0, 1) := by decide +kernel
theorem dX1_moveDown_70 : decode cX1_moveDown 70 = .ok (.getfield 24, 3) := by decide +kernel
theorem dX1_moveDown_73 : decode cX1_moveDown 73 = .ok (.iload_n 1, 1) := by decide +kernel
theorem dX1_moveDown_74 : decode cX1_moveDown 74 = .ok (.iaload, 1) := by decide +kernel
theorem dX1_moveDown_75 : decode cX1_moveDown 75 = .ok (.iastore, 1) := by decide +kernel
theorem dX1_moveDown_76 : decode cX1_moveDown 76 = .ok (.aload_n 0, 1) := by decide +kernel
theorem dX1_moveDown_77 : decode cX1_moveDown 77 = .ok (.getfield 27, 3) := by decide +kernel
theorem dX1_moveDown_80 : decode cX1_moveDown 80 = .ok (.iload_n 2, 1) := by decide +kernel
theorem dX1_moveDown_81 : decode cX1_moveDown 81 = .ok (.aload_n 0, 1) := by decide +kernel
theorem dX1_moveDown_82 : decode cX1_moveDown 82 = .ok (.getfield 27, 3) := by decide +kernel
theorem dX1_moveDown_85 : decode cX1_moveDown 85 = .ok (.iload_n 1, 1) := by decide +kernel
theorem dX1_moveDown_86 : decode cX1_moveDown 86 = .ok (.iaload, 1) := by decide +kernel
theorem dX1_moveDown_87 : decode cX1_moveDown 87 = .ok (.iastore, 1) := by decide +kernel
theorem dX1_moveDown_88 : decode cX1_moveDown 88 = .ok (.aload_n 0, 1) := by decide +kernel
theorem dX1_moveDown_89 : decode cX1_moveDown 89 = .ok (.getfield 30, 3) := by decide +kernel
theorem dX1_moveDown_92 : decode cX1_moveDown 92 = .ok (.iload_n 2, 1) := by decide +kernel
theorem dX1_moveDown_93 : decode cX1_moveDown 93 = .ok (.aload_n 0, 1) := by decide +kernel
theorem dX1_moveDown_94 : decode cX1_moveDown 94 = .ok (.getfield 30, 3) := by decide +kernel
theorem dX1_moveDown_97 : decode cX1_moveDown 97 = .ok (.iload_n 1, 1) := by decide +kernel
theorem dX1_moveDown_98 : decode cX1_moveDown 98 = .ok (.iaload, 1) := by decide +kernel
theorem dX1_moveDown_99 : decode cX1_moveDown 99 = .ok (.iastore, 1) := by decide +kernel
theorem dX1_moveDown_100 : decode cX1_moveDown 100 = .ok (.aload_n 0, 1) := by decide +kernel
theorem dX1_moveDown_101 : decode cX1_moveDown 101 = .ok (.getfield 33, 3) := by decide +kernel
theorem dX1_moveDown_104 : decode cX1_moveDown 104 = .ok (.iload_n 2, 1) := by decide +kernel
theorem dX1_moveDown_105 : decode cX1_moveDown 105 = .ok (.aload_n 0, 1) := by decide +kernel
theorem dX1_moveDown_106 : decode cX1_moveDown 106 = .ok (.getfield 33, 3) := by decide +kernel
theorem dX1_moveDown_109 : decode cX1_moveDown 109 = .ok (.iload_n 1, 1) := by decide +kernel
theorem dX1_moveDown_110 : decode cX1_moveDown 110 = .ok (.iaload, 1) := by decide +kernel
theorem dX1_moveDown_111 : decode cX1_moveDown 111 = .ok (.iastore, 1) := by decide +kernel
theorem dX1_moveDown_112 : decode cX1_moveDown 112 = .ok (.return_, 1) := by decide +kernel
theorem dX1_placeWithout_0 : decode cX1_placeWithout 0 = .ok (.iload_n 0, 1) := by decide +kernel
theorem dX1_placeWithout_1 : decode cX1_placeWithout 1 = .ok (.iload_n 1, 1) := by decide +kernel
theorem dX1_placeWithout_2 : decode cX1_placeWithout 2 = .ok (.if_icmp .le 9, 3) := by decide +kernel
theorem dX1_placeWithout_5 : decode cX1_placeWithout 5 = .ok (.iload_n 0, 1) := by decide +kernel
theorem dX1_placeWithout_6 : decode cX1_placeWithout 6 = .ok (.iload_n 2, 1) := by decide +kernel
theorem dX1_placeWithout_7 : decode cX1_placeWithout 7 = .ok (.isub, 1) := by decide +kernel
theorem dX1_placeWithout_8 : decode cX1_placeWithout 8 = .ok (.goto 4, 3) := by decide +kernel
theorem dX1_placeWithout_11 : decode cX1_placeWithout 11 = .ok (.iload_n 0, 1) := by decide +kernel
theorem dX1_placeWithout_12 : decode cX1_placeWithout 12 = .ok (.ireturn, 1) := by decide +kernel
theorem dX1_link_0 : decode cX1_link 0 = .ok (.iconst 0, 1) := by decide +kernel
theorem dX1_link_1 : decode cX1_link 1 = .ok (.istore_n 1, 1) := by decide +kernel
theorem dX1_link_2 : decode cX1_link 2 = .ok (.iload_n 1, 1) := by decide +kernel
theorem dX1_link_3 : decode cX1_link 3 = .ok (.aload_n 0, 1) := by decide +kernel
theorem dX1_link_4 : decode cX1_link 4 = .ok (.getfield 39, 3) := by decide +kernel
theorem dX1_link_7 : decode cX1_link 7 = .ok (.if_icmp .ge 26, 3) := by decide +kernel
theorem dX1_link_10 : decode cX1_link 10 = .ok (.iload_n 1, 1) := by decide +kernel
theorem dX1_link_11 : decode cX1_link 11 = .ok (.bipush 60, 2) := by decide +kernel
theorem dX1_link_13 : decode cX1_link 13 = .ok (.if_icmp .ge 20, 3) := by decide +kernel
theorem dX1_link_16 : decode cX1_link 16 = .ok (.aload_n 0, 1) := by decide +kernel
theorem dX1_link_17 : decode cX1_link 17 = .ok (.getfield 36, 3) := by decide +kernel
theorem dX1_link_20 : decode cX1_link 20 = .ok (.iload_n 1, 1) := by decide +kernel
theorem dX1_link_21 : decode cX1_link 21 = .ok (.aload_n 0, 1) := by decide +kernel
theorem dX1_link_22 : decode cX1_link 22 = .ok (.iload_n 1, 1) := by decide +kernel
theorem dX1_link_23 : decode cX1_link 23 = .ok (.invokevirtual 68, 3) := by decide +kernel
theorem dX1_link_26 : decode cX1_link 26 = .ok (.iastore, 1) := by decide +kernel
theorem dX1_link_27 : decode cX1_link 27 = .ok (.iinc 1 1, 3) := by decide +kernel
theorem dX1_link_30 : decode cX1_link 30 = .ok (.goto (-28), 3) := by decide +kernel
theorem dX1_link_33 : decode cX1_link 33 = .ok (.return_, 1) := by decide +kernel
theorem dX1_followerOf_0 : decode cX1_followerOf 0 = .ok (.aload_n 0, 1) := by decide +kernel
theorem dX1_followerOf_1 : decode cX1_followerOf 1 = .ok (.aload_n 0, 1) := by decide +kernel
theorem dX1_followerOf_2 : decode cX1_followerOf 2 = .ok (.getfield 33, 3) := by decide +kernel
theorem dX1_followerOf_5 : decode cX1_followerOf 5 = .ok (.iload_n 1, 1) := by decide +kernel
theorem dX1_followerOf_6 : decode cX1_followerOf 6 = .ok (.invokevirtual 72, 3) := by decide +kernel
theorem dX1_followerOf_9 : decode cX1_followerOf 9 = .ok (.istore_n 2, 1) := by decide +kernel
theorem dX1_followerOf_10 : decode cX1_followerOf 10 = .ok (.aload_n 0, 1) := by decide +kernel
theorem dX1_followerOf_11 : decode cX1_followerOf 11 = .ok (.aload_n 0, 1) := by decide +kernel
theorem dX1_followerOf_12 : decode cX1_followerOf 12 = .ok (.getfield 27, 3) := by decide +kernel
theorem dX1_followerOf_15 : decode cX1_followerOf 15 = .ok (.iload_n 1, 1) := by decide +kernel
theorem dX1_followerOf_16 : decode cX1_followerOf 16 = .ok (.invokevirtual 72, 3) := by decide +kernel
theorem dX1_followerOf_19 : decode cX1_followerOf 19 = .ok (.istore_n 3, 1) := by decide +kernel
theorem dX1_followerOf_20 : decode cX1_followerOf 20 = .ok (.aload_n 0, 1) := by decide +kernel
theorem dX1_followerOf_21 : decode cX1_followerOf 21 = .ok (.iload_n 3, 1) := by decide +kernel
theorem dX1_followerOf_22 : decode cX1_followerOf 22 = .ok (.invokevirtual 47, 3) := by decide +kernel
theorem dX1_followerOf_25 : decode cX1_followerOf 25 = .ok (.ifCond .ne 5, 3) := by decide +kernel
theorem dX1_followerOf_28 : decode cX1_followerOf 28 = .ok (.iload_n 2, 1) := by decide +kernel
theorem dX1_followerOf_29 : decode cX1_followerOf 29 = .ok (.ireturn, 1) := by decide +kernel
theorem dX1_followerOf_30 : decode cX1_followerOf 30 = .ok (.iload_n 1, 1) := by decide +kernel
theorem dX1_followerOf_31 : decode cX1_followerOf 31 = .ok (.aload_n 0, 1) := by decide +kernel
theorem dX1_followerOf_32 : decode cX1_followerOf 32 = .ok (.getfield 30, 3) := by decide +kernel
theorem dX1_followerOf_35 : decode cX1_followerOf 35 = .ok (.iload_n 3, 1) := by decide +kernel
theorem dX1_followerOf_36 : decode cX1_followerOf 36 = .ok (.iaload, 1) := by decide +kernel
theorem dX1_followerOf_37 : decode cX1_followerOf 37 = .ok (.if_icmp .ge 12, 3) := by decide +kernel
theorem dX1_followerOf_40 : decode cX1_followerOf 40 = .ok (.aload_n 0, 1) := by decide +kernel
theorem dX1_followerOf_41 : decode cX1_followerOf 41 = .ok (.getfield 30, 3) := by decide +kernel
theorem dX1_followerOf_44 : decode cX1_followerOf 44 = .ok (.iload_n 3, 1) := by decide +kernel
theorem dX1_followerOf_45 : decode cX1_followerOf 45 = .ok (.iaload, 1) := by decide +kernel
theorem dX1_followerOf_46 : decode cX1_followerOf 46 = .ok (.goto 9, 3) := by decide +kernel
theorem dX1_followerOf_49 : decode cX1_followerOf 49 = .ok (.aload_n 0, 1) := by decide +kernel
theorem dX1_followerOf_50 : decode cX1_followerOf 50 = .ok (.getfield 33, 3) := by decide +kernel
theorem dX1_followerOf_53 : decode cX1_followerOf 53 = .ok (.iload_n 3, 1) := by decide +kernel
theorem dX1_followerOf_54 : decode cX1_followerOf 54 = .ok (.iaload, 1) := by decide +kernel
theorem dX1_followerOf_55 : decode cX1_followerOf 55 = .ok (.istore 4, 2) := by decide +kernel
theorem dX1_followerOf_57 : decode cX1_followerOf 57 = .ok (.iload_n 2, 1) := by decide +kernel
theorem dX1_followerOf_58 : decode cX1_followerOf 58 = .ok (.iload 4, 2) := by decide +kernel
theorem dX1_followerOf_60 : decode cX1_followerOf 60 = .ok (.if_icmp .ge 5, 3) := by decide +kernel
theorem dX1_followerOf_63 : decode cX1_followerOf 63 = .ok (.iload_n 2, 1) := by decide +kernel
theorem dX1_followerOf_64 : decode cX1_followerOf 64 = .ok (.ireturn, 1) := by decide +kernel
theorem dX1_followerOf_65 : decode cX1_followerOf 65 = .ok (.aload_n 0, 1) := by decide +kernel
theorem dX1_followerOf_66 : decode cX1_followerOf 66 = .ok (.getfield 9, 3) := by decide +kernel
theorem dX1_followerOf_69 : decode cX1_followerOf 69 = .ok (.iload_n 3, 1) := by decide +kernel
theorem dX1_followerOf_70 : decode cX1_followerOf 70 = .ok (.iaload, 1) := by decide +kernel
theorem dX1_followerOf_71 : decode cX1_followerOf 71 = .ok (.iconst 4, 1) := by decide +kernel
theorem dX1_followerOf_72 : decode cX1_followerOf 72 = .ok (.if_icmp .ne 7, 3) := by decide +kernel
theorem dX1_followerOf_75 : decode cX1_followerOf 75 = .ok (.iload_n 3, 1) := by decide +kernel
theorem dX1_followerOf_76 : decode cX1_followerOf 76 = .ok (.goto 9, 3) := by decide +kernel
theorem dX1_followerOf_79 : decode cX1_followerOf 79 = .ok (.aload_n 0, 1) := by decide +kernel
theorem dX1_followerOf_80 : decode cX1_followerOf 80 = .ok (.getfield 36, 3) := by decide +kernel
theorem dX1_followerOf_83 : decode cX1_followerOf 83 = .ok (.iload_n 3, 1) := by decide +kernel
theorem dX1_followerOf_84 : decode cX1_followerOf 84 = .ok (.iaload, 1) := by decide +kernel
theorem dX1_followerOf_85 : decode cX1_followerOf 85 = .ok (.ireturn, 1) := by decide +kernel
theorem dX1_entered_0 : decode cX1_entered 0 = .ok (.aload_n 0, 1) := by decide +kernel
theorem dX1_entered_1 : decode cX1_entered 1 = .ok (.aload_n 0, 1) := by decide +kernel
theorem dX1_entered_2 : decode cX1_entered 2 = .ok (.getfield 30, 3) := by decide +kernel
theorem dX1_entered_5 : decode cX1_entered 5 = .ok (.iload_n 1, 1) := by decide +kernel
theorem dX1_entered_6 : decode cX1_entered 6 = .ok (.invokevirtual 72, 3) := by decide +kernel
theorem dX1_entered_9 : decode cX1_entered 9 = .ok (.iload_n 1, 1) := by decide +kernel
theorem dX1_entered_10 : decode cX1_entered 10 = .ok (.iconst 1, 1) := by decide +kernel
theorem dX1_entered_11 : decode cX1_entered 11 = .ok (.iadd, 1) := by decide +kernel
theorem dX1_entered_12 : decode cX1_entered 12 = .ok (.if_icmp .le 7, 3) := by decide +kernel
theorem dX1_entered_15 : decode cX1_entered 15 = .ok (.iload_n 1, 1) := by decide +kernel
theorem dX1_entered_16 : decode cX1_entered 16 = .ok (.iconst 1, 1) := by decide +kernel
theorem dX1_entered_17 : decode cX1_entered 17 = .ok (.iadd, 1) := by decide +kernel
theorem dX1_entered_18 : decode cX1_entered 18 = .ok (.ireturn, 1) := by decide +kernel
theorem dX1_entered_19 : decode cX1_entered 19 = .ok (.aload_n 0, 1) := by decide +kernel
theorem dX1_entered_20 : decode cX1_entered 20 = .ok (.iload_n 1, 1) := by decide +kernel
theorem dX1_entered_21 : decode cX1_entered 21 = .ok (.invokevirtual 76, 3) := by decide +kernel
theorem dX1_entered_24 : decode cX1_entered 24 = .ok (.iconst 4, 1) := by decide +kernel
theorem dX1_entered_25 : decode cX1_entered 25 = .ok (.if_icmp .ne 7, 3) := by decide +kernel
theorem dX1_entered_28 : decode cX1_entered 28 = .ok (.iload_n 1, 1) := by decide +kernel
theorem dX1_entered_29 : decode cX1_entered 29 = .ok (.goto 8, 3) := by decide +kernel
theorem dX1_entered_32 : decode cX1_entered 32 = .ok (.aload_n 0, 1) := by decide +kernel
theorem dX1_entered_33 : decode cX1_entered 33 = .ok (.iload_n 1, 1) := by decide +kernel
theorem dX1_entered_34 : decode cX1_entered 34 = .ok (.invokevirtual 79, 3) := by decide +kernel
theorem dX1_entered_37 : decode cX1_entered 37 = .ok (.ireturn, 1) := by decide +kernel
theorem dX1_passed_0 : decode cX1_passed 0 = .ok (.aload_n 0, 1) := by decide +kernel
theorem dX1_passed_1 : decode cX1_passed 1 = .ok (.aload_n 0, 1) := by decide +kernel
theorem dX1_passed_2 : decode cX1_passed 2 = .ok (.getfield 30, 3) := by decide +kernel
theorem dX1_passed_5 : decode cX1_passed 5 = .ok (.iload_n 1, 1) := by decide +kernel
theorem dX1_passed_6 : decode cX1_passed 6 = .ok (.invokevirtual 72, 3) := by decide +kernel
theorem dX1_passed_9 : decode cX1_passed 9 = .ok (.istore_n 2, 1) := by decide +kernel
theorem dX1_passed_10 : decode cX1_passed 10 = .ok (.aload_n 0, 1) := by decide +kernel
theorem dX1_passed_11 : decode cX1_passed 11 = .ok (.aload_n 0, 1) := by decide +kernel
theorem dX1_passed_12 : decode cX1_passed 12 = .ok (.getfield 33, 3) := by decide +kernel
theorem dX1_passed_15 : decode cX1_passed 15 = .ok (.iload_n 1, 1) := by decide +kernel
theorem dX1_passed_16 : decode cX1_passed 16 = .ok (.invokevirtual 72, 3) := by decide +kernel
theorem dX1_passed_19 : decode cX1_passed 19 = .ok (.iload_n 2, 1) := by decide +kernel
theorem dX1_passed_20 : decode cX1_passed 20 = .ok (.if_icmp .le 7, 3) := by decide +kernel
theorem dX1_passed_23 : decode cX1_passed 23 = .ok (.iload_n 2, 1) := by decide +kernel
theorem dX1_passed_24 : decode cX1_passed 24 = .ok (.goto 8, 3) := by decide +kernel
theorem dX1_passed_27 : decode cX1_passed 27 = .ok (.aload_n 0, 1) := by decide +kernel
theorem dX1_passed_28 : decode cX1_passed 28 = .ok (.iload_n 1, 1) := by decide +kernel
theorem dX1_passed_29 : decode cX1_passed 29 = .ok (.invokevirtual 79, 3) := by decide +kernel
theorem dX1_passed_32 : decode cX1_passed 32 = .ok (.ireturn, 1) := by decide +kernel
theorem dX1_kindOf_0 : decode cX1_kindOf 0 = .ok (.aload_n 0, 1) := by decide +kernel
theorem dX1_kindOf_1 : decode cX1_kindOf 1 = .ok (.aload_n 0, 1) := by decide +kernel
theorem dX1_kindOf_2 : decode cX1_kindOf 2 = .ok (.getfield 9, 3) := by decide +kernel
theorem dX1_kindOf_5 : decode cX1_kindOf 5 = .ok (.iload_n 1, 1) := by decide +kernel
theorem dX1_kindOf_6 : decode cX1_kindOf 6 = .ok (.invokevirtual 72, 3) := by decide +kernel
theorem dX1_kindOf_9 : decode cX1_kindOf 9 = .ok (.ireturn, 1) := by decide +kernel
theorem dX1_targetOf_0 : decode cX1_targetOf 0 = .ok (.aload_n 0, 1) := by decide +kernel
theorem dX1_targetOf_1 : decode cX1_targetOf 1 = .ok (.aload_n 0, 1) := by decide +kernel
theorem dX1_targetOf_2 : decode cX1_targetOf 2 = .ok (.getfield 15, 3) := by decide +kernel
theorem dX1_targetOf_5 : decode cX1_targetOf 5 = .ok (.iload_n 1, 1) := by decide +kernel
theorem dX1_targetOf_6 : decode cX1_targetOf 6 = .ok (.invokevirtual 72, 3) := by decide +kernel
theorem dX1_targetOf_9 : decode cX1_targetOf 9 = .ok (.ireturn, 1) := by decide +kernel
theorem dX1_leftOf_0 : decode cX1_leftOf 0 = .ok (.aload_n 0, 1) := by decide +kernel
theorem dX1_leftOf_1 : decode cX1_leftOf 1 = .ok (.aload_n 0, 1) := by decide +kernel
theorem dX1_leftOf_2 : decode cX1_leftOf 2 = .ok (.getfield 18, 3) := by decide +kernel
theorem dX1_leftOf_5 : decode cX1_leftOf 5 = .ok (.iload_n 1, 1) := by decide +kernel
theorem dX1_leftOf_6 : decode cX1_leftOf 6 = .ok (.invokevirtual 72, 3) := by decide +kernel
theorem dX1_leftOf_9 : decode cX1_leftOf 9 = .ok (.ireturn, 1) := by decide +kernel
theorem dX1_operatorOf_0 : decode cX1_operatorOf 0 = .ok (.aload_n 0, 1) := by decide +kernel
theorem dX1_operatorOf_1 : decode cX1_operatorOf 1 = .ok (.aload_n 0, 1) := by decide +kernel
theorem dX1_operatorOf_2 : decode cX1_operatorOf 2 = .ok (.getfield 21, 3) := by decide +kernel
theorem dX1_operatorOf_5 : decode cX1_operatorOf 5 = .ok (.iload_n 1, 1) := by decide +kernel
theorem dX1_operatorOf_6 : decode cX1_operatorOf 6 = .ok (.invokevirtual 72, 3) := by decide +kernel
theorem dX1_operatorOf_9 : decode cX1_operatorOf 9 = .ok (.ireturn, 1) := by decide +kernel
theorem dX1_rightOf_0 : decode cX1_rightOf 0 = .ok (.aload_n 0, 1) := by decide +kernel
theorem dX1_rightOf_1 : decode cX1_rightOf 1 = .ok (.aload_n 0, 1) := by decide +kernel
theorem dX1_rightOf_2 : decode cX1_rightOf 2 = .ok (.getfield 24, 3) := by decide +kernel
theorem dX1_rightOf_5 : decode cX1_rightOf 5 = .ok (.iload_n 1, 1) := by decide +kernel
theorem dX1_rightOf_6 : decode cX1_rightOf 6 = .ok (.invokevirtual 72, 3) := by decide +kernel
theorem dX1_rightOf_9 : decode cX1_rightOf 9 = .ok (.ireturn, 1) := by decide +kernel
theorem dX1_followerAt_0 : decode cX1_followerAt 0 = .ok (.aload_n 0, 1) := by decide +kernel
theorem dX1_followerAt_1 : decode cX1_followerAt 1 = .ok (.aload_n 0, 1) := by decide +kernel
theorem dX1_followerAt_2 : decode cX1_followerAt 2 = .ok (.getfield 36, 3) := by decide +kernel
theorem dX1_followerAt_5 : decode cX1_followerAt 5 = .ok (.iload_n 1, 1) := by decide +kernel
theorem dX1_followerAt_6 : decode cX1_followerAt 6 = .ok (.invokevirtual 72, 3) := by decide +kernel
theorem dX1_followerAt_9 : decode cX1_followerAt 9 = .ok (.ireturn, 1) := by decide +kernel
theorem dX1_item_0 : decode cX1_item 0 = .ok (.aload_n 0, 1) := by decide +kernel
theorem dX1_item_1 : decode cX1_item 1 = .ok (.iload_n 2, 1) := by decide +kernel
theorem dX1_item_2 : decode cX1_item 2 = .ok (.invokevirtual 47, 3) := by decide +kernel
theorem dX1_item_5 : decode cX1_item 5 = .ok (.ifCond .eq 9, 3) := by decide +kernel
theorem dX1_item_8 : decode cX1_item 8 = .ok (.aload_n 1, 1) := by decide +kernel
theorem dX1_item_9 : decode cX1_item 9 = .ok (.iload_n 2, 1) := by decide +kernel
theorem dX1_item_10 : decode cX1_item 10 = .ok (.iaload, 1) := by decide +kernel
theorem dX1_item_11 : decode cX1_item 11 = .ok (.goto 4, 3) := by decide +kernel
theorem dX1_item_14 : decode cX1_item 14 = .ok (.iconst 0, 1) := by decide +kernel
theorem dX1_item_15 : decode cX1_item 15 = .ok (.ireturn, 1) := by decide +kernel
theorem dX1_tally_0 : decode cX1_tally 0 = .ok (.iconst 0, 1) := by decide +kernel
theorem dX1_tally_1 : decode cX1_tally 1 = .ok (.istore_n 2, 1) := by decide +kernel
theorem dX1_tally_2 : decode cX1_tally 2 = .ok (.iconst 0, 1) := by decide +kernel
theorem dX1_tally_3 : decode cX1_tally 3 = .ok (.istore_n 3, 1) := by decide +kernel
theorem dX1_tally_4 : decode cX1_tally 4 = .ok (.iload_n 3, 1) := by decide +kernel
theorem dX1_tally_5 : decode cX1_tally 5 = .ok (.aload_n 0, 1) := by decide +kernel
theorem dX1_tally_6 : decode cX1_tally 6 = .ok (.getfield 39, 3) := by decide +kernel
theorem dX1_tally_9 : decode cX1_tally 9 = .ok (.if_icmp .ge 28, 3) := by decide +kernel
theorem dX1_tally_12 : decode cX1_tally 12 = .ok (.iload_n 3, 1) := by decide +kernel
theorem dX1_tally_13 : decode cX1_tally 13 = .ok (.bipush 60, 2) := by decide +kernel
theorem dX1_tally_15 : decode cX1_tally 15 = .ok (.if_icmp .ge 22, 3) := by decide +kernel
theorem dX1_tally_18 : decode cX1_tally 18 = .ok (.aload_n 0, 1) := by decide +kernel
theorem dX1_tally_19 : decode cX1_tally 19 = .ok (.getfield 9, 3) := by decide +kernel
theorem dX1_tally_22 : decode cX1_tally 22 = .ok (.iload_n 3, 1) := by decide +kernel
theorem dX1_tally_23 : decode cX1_tally 23 = .ok (.iaload, 1) := by decide +kernel
theorem dX1_tally_24 : decode cX1_tally 24 = .ok (.iload_n 1, 1) := by decide +kernel
theorem dX1_tally_25 : decode cX1_tally 25 = .ok (.if_icmp .ne 6, 3) := by decide +kernel
theorem dX1_tally_28 : decode cX1_tally 28 = .ok (.iinc 2 1, 3) := by decide +kernel
theorem dX1_tally_31 : decode cX1_tally 31 = .ok (.iinc 3 1, 3) := by decide +kernel
theorem dX1_tally_34 : decode cX1_tally 34 = .ok (.goto (-30), 3) := by decide +kernel
theorem dX1_tally_37 : decode cX1_tally 37 = .ok (.iload_n 2, 1) := by decide +kernel
theorem dX1_tally_38 : decode cX1_tally 38 = .ok (.ireturn, 1) := by decide +kernel
theorem dX1_nesting_0 : decode cX1_nesting 0 = .ok (.iconst 0, 1) := by decide +kernel
theorem dX1_nesting_1 : decode cX1_nesting 1 = .ok (.istore_n 1, 1) := by decide +kernel
theorem dX1_nesting_2 : decode cX1_nesting 2 = .ok (.iconst 0, 1) := by decide +kernel
theorem dX1_nesting_3 : decode cX1_nesting 3 = .ok (.istore_n 2, 1) := by decide +kernel
theorem dX1_nesting_4 : decode cX1_nesting 4 = .ok (.iload_n 2, 1) := by decide +kernel
theorem dX1_nesting_5 : decode cX1_nesting 5 = .ok (.aload_n 0, 1) := by decide +kernel
theorem dX1_nesting_6 : decode cX1_nesting 6 = .ok (.getfield 39, 3) := by decide +kernel
theorem dX1_nesting_9 : decode cX1_nesting 9 = .ok (.if_icmp .ge 45, 3) := by decide +kernel
theorem dX1_nesting_12 : decode cX1_nesting 12 = .ok (.iload_n 2, 1) := by decide +kernel
theorem dX1_nesting_13 : decode cX1_nesting 13 = .ok (.bipush 60, 2) := by decide +kernel
theorem dX1_nesting_15 : decode cX1_nesting 15 = .ok (.if_icmp .ge 39, 3) := by decide +kernel
theorem dX1_nesting_18 : decode cX1_nesting 18 = .ok (.aload_n 0, 1) := by decide +kernel
theorem dX1_nesting_19 : decode cX1_nesting 19 = .ok (.getfield 9, 3) := by decide +kernel
theorem dX1_nesting_22 : decode cX1_nesting 22 = .ok (.iload_n 2, 1) := by decide +kernel
theorem dX1_nesting_23 : decode cX1_nesting 23 = .ok (.iaload, 1) := by decide +kernel
theorem dX1_nesting_24 : decode cX1_nesting 24 = .ok (.iconst 4, 1) := by decide +kernel
theorem dX1_nesting_25 : decode cX1_nesting 25 = .ok (.if_icmp .eq 13, 3) := by decide +kernel
theorem dX1_nesting_28 : decode cX1_nesting 28 = .ok (.aload_n 0, 1) := by decide +kernel
theorem dX1_nesting_29 : decode cX1_nesting 29 = .ok (.getfield 9, 3) := by decide +kernel
theorem dX1_nesting_32 : decode cX1_nesting 32 = .ok (.iload_n 2, 1) := by decide +kernel
theorem dX1_nesting_33 : decode cX1_nesting 33 = .ok (.iaload, 1) := by decide +kernel
theorem dX1_nesting_34 : decode cX1_nesting 34 = .ok (.iconst 5, 1) := by decide +kernel
theorem dX1_nesting_35 : decode cX1_nesting 35 = .ok (.if_icmp .ne 13, 3) := by decide +kernel
theorem dX1_nesting_38 : decode cX1_nesting 38 = .ok (.iload_n 1, 1) := by decide +kernel
theorem dX1_nesting_39 : decode cX1_nesting 39 = .ok (.aload_n 0, 1) := by decide +kernel
theorem dX1_nesting_40 : decode cX1_nesting 40 = .ok (.iload_n 2, 1) := by decide +kernel
theorem dX1_nesting_41 : decode cX1_nesting 41 = .ok (.invokevirtual 82, 3) := by decide +kernel
theorem dX1_nesting_44 : decode cX1_nesting 44 = .ok (.invokestatic 85, 3) := by decide +kernel
theorem dX1_nesting_47 : decode cX1_nesting 47 = .ok (.istore_n 1, 1) := by decide +kernel
theorem dX1_nesting_48 : decode cX1_nesting 48 = .ok (.iinc 2 1, 3) := by decide +kernel
theorem dX1_nesting_51 : decode cX1_nesting 51 = .ok (.goto (-47), 3) := by decide +kernel
theorem dX1_nesting_54 : decode cX1_nesting 54 = .ok (.iload_n 1, 1) := by decide +kernel
theorem dX1_nesting_55 : decode cX1_nesting 55 = .ok (.ireturn, 1) := by decide +kernel
theorem dX1_depthOf_0 : decode cX1_depthOf 0 = .ok (.iconst 0, 1) := by decide +kernel
theorem dX1_depthOf_1 : decode cX1_depthOf 1 = .ok (.istore_n 2, 1) := by decide +kernel
theorem dX1_depthOf_2 : decode cX1_depthOf 2 = .ok (.iload_n 1, 1) := by decide +kernel
theorem dX1_depthOf_3 : decode cX1_depthOf 3 = .ok (.istore_n 3, 1) := by decide +kernel
theorem dX1_depthOf_4 : decode cX1_depthOf 4 = .ok (.iconst 0, 1) := by decide +kernel
theorem dX1_depthOf_5 : decode cX1_depthOf 5 = .ok (.istore 4, 2) := by decide +kernel
theorem dX1_depthOf_7 : decode cX1_depthOf 7 = .ok (.iload 4, 2) := by decide +kernel
theorem dX1_depthOf_9 : decode cX1_depthOf 9 = .ok (.iconst 5, 1) := by decide +kernel
theorem dX1_depthOf_10 : decode cX1_depthOf 10 = .ok (.if_icmp .ge 27, 3) := by decide +kernel
theorem dX1_depthOf_13 : decode cX1_depthOf 13 = .ok (.aload_n 0, 1) := by decide +kernel
theorem dX1_depthOf_14 : decode cX1_depthOf 14 = .ok (.iload_n 3, 1) := by decide +kernel
theorem dX1_depthOf_15 : decode cX1_depthOf 15 = .ok (.invokevirtual 47, 3) := by decide +kernel
theorem dX1_depthOf_18 : decode cX1_depthOf 18 = .ok (.ifCond .eq 19, 3) := by decide +kernel
theorem dX1_depthOf_21 : decode cX1_depthOf 21 = .ok (.iinc 2 1, 3) := by decide +kernel
theorem dX1_depthOf_24 : decode cX1_depthOf 24 = .ok (.aload_n 0, 1) := by decide +kernel
theorem dX1_depthOf_25 : decode cX1_depthOf 25 = .ok (.getfield 27, 3) := by decide +kernel
theorem dX1_depthOf_28 : decode cX1_depthOf 28 = .ok (.iload_n 3, 1) := by decide +kernel
theorem dX1_depthOf_29 : decode cX1_depthOf 29 = .ok (.iaload, 1) := by decide +kernel
theorem dX1_depthOf_30 : decode cX1_depthOf 30 = .ok (.istore_n 3, 1) := by decide +kernel
theorem dX1_depthOf_31 : decode cX1_depthOf 31 = .ok (.iinc 4 1, 3) := by decide +kernel
theorem dX1_depthOf_34 : decode cX1_depthOf 34 = .ok (.goto (-27), 3) := by decide +kernel
theorem dX1_depthOf_37 : decode cX1_depthOf 37 = .ok (.iload_n 2, 1) := by decide +kernel
theorem dX1_depthOf_38 : decode cX1_depthOf 38 = .ok (.ireturn, 1) := by decide +kernel
theorem dX1_settableCells_0 : decode cX1_settableCells 0 = .ok (.iconst 0, 1) := by decide +kernel
theorem dX1_settableCells_1 : decode cX1_settableCells 1 = .ok (.istore_n 1, 1) := by decide +kernel
theorem dX1_settableCells_2 : decode cX1_settableCells 2 = .ok (.iconst 0, 1) := by decide +kernel
theorem dX1_settableCells_3 : decode cX1_settableCells 3 = .ok (.istore_n 2, 1) := by decide +kernel
theorem dX1_settableCells_4 : decode cX1_settableCells 4 = .ok (.iload_n 2, 1) := by decide +kernel
theorem dX1_settableCells_5 : decode cX1_settableCells 5 = .ok (.aload_n 0, 1) := by decide +kernel
theorem dX1_settableCells_6 : decode cX1_settableCells 6 = .ok (.getfield 39, 3) := by decide +kernel
theorem dX1_settableCells_9 : decode cX1_settableCells 9 = .ok (.if_icmp .ge 36, 3) := by decide +kernel
theorem dX1_settableCells_12 : decode cX1_settableCells 12 = .ok (.iload_n 2, 1) := by decide +kernel
theorem dX1_settableCells_13 : decode cX1_settableCells 13 = .ok (.bipush 60, 2) := by decide +kernel
theorem dX1_settableCells_15 : decode cX1_settableCells 15 = .ok (.if_icmp .ge 30, 3) := by decide +kernel
theorem dX1_settableCells_18 : decode cX1_settableCells 18 = .ok (.aload_n 0, 1) := by decide +kernel
theorem dX1_settableCells_19 : decode cX1_settableCells 19 = .ok (.getfield 9, 3) := by decide +kernel
theorem dX1_settableCells_22 : decode cX1_settableCells 22 = .ok (.iload_n 2, 1) := by decide +kernel
theorem dX1_settableCells_23 : decode cX1_settableCells 23 = .ok (.iaload, 1) := by decide +kernel
theorem dX1_settableCells_24 : decode cX1_settableCells 24 = .ok (.iconst 1, 1) := by decide +kernel
theorem dX1_settableCells_25 : decode cX1_settableCells 25 = .ok (.if_icmp .ne 14, 3) := by decide +kernel
theorem dX1_settableCells_28 : decode cX1_settableCells 28 = .ok (.iload_n 1, 1) := by decide +kernel
theorem dX1_settableCells_29 : decode cX1_settableCells 29 = .ok (.iconst 1, 1) := by decide +kernel
theorem dX1_settableCells_30 : decode cX1_settableCells 30 = .ok (.aload_n 0, 1) := by decide +kernel
theorem dX1_settableCells_31 : decode cX1_settableCells 31 = .ok (.getfield 15, 3) := by decide +kernel
theorem dX1_settableCells_34 : decode cX1_settableCells 34 = .ok (.iload_n 2, 1) := by decide +kernel
theorem dX1_settableCells_35 : decode cX1_settableCells 35 = .ok (.iaload, 1) := by decide +kernel
theorem dX1_settableCells_36 : decode cX1_settableCells 36 = .ok (.ishl, 1) := by decide +kernel
theorem dX1_settableCells_37 : decode cX1_settableCells 37 = .ok (.ior, 1) := by decide +kernel
theorem dX1_settableCells_38 : decode cX1_settableCells 38 = .ok (.istore_n 1, 1) := by decide +kernel
theorem dX1_settableCells_39 : decode cX1_settableCells 39 = .ok (.iinc 2 1, 3) := by decide +kernel
theorem dX1_settableCells_42 : decode cX1_settableCells 42 = .ok (.goto (-38), 3) := by decide +kernel
theorem dX1_settableCells_45 : decode cX1_settableCells 45 = .ok (.iload_n 1, 1) := by decide +kernel
theorem dX1_settableCells_46 : decode cX1_settableCells 46 = .ok (.ireturn, 1) := by decide +kernel
theorem dX2_init_0 : decode cX2_init 0 = .ok (.aload_n 0, 1) := by decide +kernel
theorem dX2_init_1 : decode cX2_init 1 = .ok (.invokespecial 3, 3) := by decide +kernel
theorem dX2_init_4 : decode cX2_init 4 = .ok (.aload_n 0, 1) := by decide +kernel
theorem dX2_init_5 : decode cX2_init 5 = .ok (.bipush 40, 2) := by decide +kernel
theorem dX2_init_7 : decode cX2_init 7 = .ok (.newarray .int, 2) := by decide +kernel
theorem dX2_init_9 : decode cX2_init 9 = .ok (.putfield 9, 3) := by decide +kernel
theorem dX2_init_12 : decode cX2_init 12 = .ok (.return_, 1) := by decide +kernel
theorem dX2_begin_0 : decode cX2_begin 0 = .ok (.aload_n 0, 1) := by decide +kernel
theorem dX2_begin_1 : decode cX2_begin 1 = .ok (.iconst 0, 1) := by decide +kernel
theorem dX2_begin_2 : decode cX2_begin 2 = .ok (.putfield 15, 3) := by decide +kernel
theorem dX2_begin_5 : decode cX2_begin 5 = .ok (.return_, 1) := by decide +kernel
theorem dX2_add_0 : decode cX2_add 0 = .ok (.aload_n 0, 1) := by decide +kernel
theorem dX2_add_1 : decode cX2_add 1 = .ok (.getfield 15, 3) := by decide +kernel
theorem dX2_add_4 : decode cX2_add 4 = .ok (.iconst 0, 1) := by decide +kernel
theorem dX2_add_5 : decode cX2_add 5 = .ok (.bipush 39, 2) := by decide +kernel
theorem dX2_add_7 : decode cX2_add 7 = .ok (.invokestatic 19, 3) := by decide +kernel
theorem dX2_add_10 : decode cX2_add 10 = .ok (.ifCond .eq 13, 3) := by decide +kernel
theorem dX2_add_13 : decode cX2_add 13 = .ok (.aload_n 0, 1) := by decide +kernel
theorem dX2_add_14 : decode cX2_add 14 = .ok (.getfield 9, 3) := by decide +kernel
theorem dX2_add_17 : decode cX2_add 17 = .ok (.aload_n 0, 1) := by decide +kernel
theorem dX2_add_18 : decode cX2_add 18 = .ok (.getfield 15, 3) := by decide +kernel
theorem dX2_add_21 : decode cX2_add 21 = .ok (.iload_n 1, 1) := by decide +kernel
theorem dX2_add_22 : decode cX2_add 22 = .ok (.iastore, 1) := by decide +kernel
theorem dX2_add_23 : decode cX2_add 23 = .ok (.aload_n 0, 1) := by decide +kernel
theorem dX2_add_24 : decode cX2_add 24 = .ok (.dup, 1) := by decide +kernel
theorem dX2_add_25 : decode cX2_add 25 = .ok (.getfield 15, 3) := by decide +kernel
theorem dX2_add_28 : decode cX2_add 28 = .ok (.iconst 1, 1) := by decide +kernel
theorem dX2_add_29 : decode cX2_add 29 = .ok (.iadd, 1) := by decide +kernel
theorem dX2_add_30 : decode cX2_add 30 = .ok (.putfield 15, 3) := by decide +kernel
theorem dX2_add_33 : decode cX2_add 33 = .ok (.return_, 1) := by decide +kernel
theorem dX2_valueAt_0 : decode cX2_valueAt 0 = .ok (.iload_n 1, 1) := by decide +kernel
theorem dX2_valueAt_1 : decode cX2_valueAt 1 = .ok (.iconst 0, 1) := by decide +kernel
theorem dX2_valueAt_2 : decode cX2_valueAt 2 = .ok (.aload_n 0, 1) := by decide +kernel
theorem dX2_valueAt_3 : decode cX2_valueAt 3 = .ok (.getfield 15, 3) := by decide +kernel
theorem dX2_valueAt_6 : decode cX2_valueAt 6 = .ok (.bipush 40, 2) := by decide +kernel
theorem dX2_valueAt_8 : decode cX2_valueAt 8 = .ok (.invokestatic 33, 3) := by decide +kernel
theorem dX2_valueAt_11 : decode cX2_valueAt 11 = .ok (.iconst 1, 1) := by decide +kernel
theorem dX2_valueAt_12 : decode cX2_valueAt 12 = .ok (.isub, 1) := by decide +kernel
theorem dX2_valueAt_13 : decode cX2_valueAt 13 = .ok (.invokestatic 19, 3) := by decide +kernel
theorem dX2_valueAt_16 : decode cX2_valueAt 16 = .ok (.ifCond .eq 12, 3) := by decide +kernel
theorem dX2_valueAt_19 : decode cX2_valueAt 19 = .ok (.aload_n 0, 1) := by decide +kernel
theorem dX2_valueAt_20 : decode cX2_valueAt 20 = .ok (.getfield 9, 3) := by decide +kernel
theorem dX2_valueAt_23 : decode cX2_valueAt 23 = .ok (.iload_n 1, 1) := by decide +kernel
theorem dX2_valueAt_24 : decode cX2_valueAt 24 = .ok (.iaload, 1) := by decide +kernel
theorem dX2_valueAt_25 : decode cX2_valueAt 25 = .ok (.goto 6, 3) := by decide +kernel
theorem dX2_valueAt_28 : decode cX2_valueAt 28 = .ok (.sipush (-10009), 3) := by decide +kernel
theorem dX2_valueAt_31 : decode cX2_valueAt 31 = .ok (.ireturn, 1) := by decide +kernel
theorem dX2_firstDifference_0 : decode cX2_firstDifference 0 = .ok (.iconst 0, 1) := by decide +kernel
theorem dX2_firstDifference_1 : decode cX2_firstDifference 1 = .ok (.istore_n 2, 1) := by decide +kernel
theorem dX2_firstDifference_2 : decode cX2_firstDifference 2 = .ok (.iload_n 2, 1) := by decide +kernel
theorem dX2_firstDifference_3 : decode cX2_firstDifference 3 = .ok (.bipush 40, 2) := by decide +kernel
theorem dX2_firstDifference_5 : decode cX2_firstDifference 5 = .ok (.if_icmp .ge 24, 3) := by decide +kernel
theorem dX2_firstDifference_8 : decode cX2_firstDifference 8 = .ok (.aload_n 0, 1) := by decide +kernel
theorem dX2_firstDifference_9 : decode cX2_firstDifference 9 = .ok (.iload_n 2, 1) := by decide +kernel
theorem dX2_firstDifference_10 : decode cX2_firstDifference 10 = .ok (.invokevirtual 39, 3) := by decide +kernel
theorem dX2_firstDifference_13 : decode cX2_firstDifference 13 = .ok (.aload_n 1, 1) := by decide +kernel
theorem dX2_firstDifference_14 : decode cX2_firstDifference 14 = .ok (.iload_n 2, 1) := by decide +kernel
theorem dX2_firstDifference_15 : decode cX2_firstDifference 15 = .ok (.invokevirtual 39, 3) := by decide +kernel
theorem dX2_firstDifference_18 : decode cX2_firstDifference 18 = .ok (.if_icmp .eq 5, 3) := by decide +kernel
theorem dX2_firstDifference_21 : decode cX2_firstDifference 21 = .ok (.iload_n 2, 1) := by decide +kernel
theorem dX2_firstDifference_22 : decode cX2_firstDifference 22 = .ok (.ireturn, 1) := by decide +kernel
theorem dX2_firstDifference_23 : decode cX2_firstDifference 23 = .ok (.iinc 2 1, 3) := by decide +kernel
theorem dX2_firstDifference_26 : decode cX2_firstDifference 26 = .ok (.goto (-24), 3) := by decide +kernel
theorem dX2_firstDifference_29 : decode cX2_firstDifference 29 = .ok (.sipush (-10009), 3) := by decide +kernel
theorem dX2_firstDifference_32 : decode cX2_firstDifference 32 = .ok (.ireturn, 1) := by decide +kernel
theorem dX2_hasValuesOf_0 : decode cX2_hasValuesOf 0 = .ok (.aload_n 0, 1) := by decide +kernel
theorem dX2_hasValuesOf_1 : decode cX2_hasValuesOf 1 = .ok (.getfield 15, 3) := by decide +kernel
theorem dX2_hasValuesOf_4 : decode cX2_hasValuesOf 4 = .ok (.aload_n 1, 1) := by decide +kernel
theorem dX2_hasValuesOf_5 : decode cX2_hasValuesOf 5 = .ok (.getfield 15, 3) := by decide +kernel
theorem dX2_hasValuesOf_8 : decode cX2_hasValuesOf 8 = .ok (.if_icmp .ne 18, 3) := by decide +kernel
theorem dX2_hasValuesOf_11 : decode cX2_hasValuesOf 11 = .ok (.aload_n 0, 1) := by decide +kernel
theorem dX2_hasValuesOf_12 : decode cX2_hasValuesOf 12 = .ok (.aload_n 1, 1) := by decide +kernel
theorem dX2_hasValuesOf_13 : decode cX2_hasValuesOf 13 = .ok (.invokevirtual 43, 3) := by decide +kernel
theorem dX2_hasValuesOf_16 : decode cX2_hasValuesOf 16 = .ok (.sipush (-10009), 3) := by decide +kernel
theorem dX2_hasValuesOf_19 : decode cX2_hasValuesOf 19 = .ok (.if_icmp .ne 7, 3) := by decide +kernel
theorem dX2_hasValuesOf_22 : decode cX2_hasValuesOf 22 = .ok (.iconst 1, 1) := by decide +kernel
theorem dX2_hasValuesOf_23 : decode cX2_hasValuesOf 23 = .ok (.goto 4, 3) := by decide +kernel
theorem dX2_hasValuesOf_26 : decode cX2_hasValuesOf 26 = .ok (.iconst 0, 1) := by decide +kernel
theorem dX2_hasValuesOf_27 : decode cX2_hasValuesOf 27 = .ok (.ireturn, 1) := by decide +kernel
theorem dX3_init_0 : decode cX3_init 0 = .ok (.aload_n 0, 1) := by decide +kernel
theorem dX3_init_1 : decode cX3_init 1 = .ok (.invokespecial 3, 3) := by decide +kernel
theorem dX3_init_4 : decode cX3_init 4 = .ok (.aload_n 0, 1) := by decide +kernel
theorem dX3_init_5 : decode cX3_init 5 = .ok (.bipush 6, 2) := by decide +kernel
theorem dX3_init_7 : decode cX3_init 7 = .ok (.newarray .int, 2) := by decide +kernel
theorem dX3_init_9 : decode cX3_init 9 = .ok (.putfield 9, 3) := by decide +kernel
theorem dX3_init_12 : decode cX3_init 12 = .ok (.aload_n 0, 1) := by decide +kernel
theorem dX3_init_13 : decode cX3_init 13 = .ok (.bipush 6, 2) := by decide +kernel
theorem dX3_init_15 : decode cX3_init 15 = .ok (.newarray .int, 2) := by decide +kernel
theorem dX3_init_17 : decode cX3_init 17 = .ok (.putfield 15, 3) := by decide +kernel
theorem dX3_init_20 : decode cX3_init 20 = .ok (.aload_n 0, 1) := by decide +kernel
theorem dX3_init_21 : decode cX3_init 21 = .ok (.aload_n 1, 1) := by decide +kernel
theorem dX3_init_22 : decode cX3_init 22 = .ok (.putfield 18, 3) := by decide +kernel
theorem dX3_init_25 : decode cX3_init 25 = .ok (.aload_n 0, 1) := by decide +kernel
theorem dX3_init_26 : decode cX3_init 26 = .ok (.aload_n 2, 1) := by decide +kernel
theorem dX3_init_27 : decode cX3_init 27 = .ok (.putfield 22, 3) := by decide +kernel
theorem dX3_init_30 : decode cX3_init 30 = .ok (.aload_n 0, 1) := by decide +kernel
theorem dX3_init_31 : decode cX3_init 31 = .ok (.getfield 9, 3) := by decide +kernel
theorem dX3_init_34 : decode cX3_init 34 = .ok (.iconst 0, 1) := by decide +kernel
theorem dX3_init_35 : decode cX3_init 35 = .ok (.iconst (-1), 1) := by decide +kernel
theorem dX3_init_36 : decode cX3_init 36 = .ok (.iastore, 1) := by decide +kernel
theorem dX3_init_37 : decode cX3_init 37 = .ok (.aload_n 0, 1) := by decide +kernel
theorem dX3_init_38 : decode cX3_init 38 = .ok (.getfield 15, 3) := by decide +kernel
theorem dX3_init_41 : decode cX3_init 41 = .ok (.iconst 0, 1) := by decide +kernel
theorem dX3_init_42 : decode cX3_init 42 = .ok (.iconst 0, 1) := by decide +kernel
theorem dX3_init_43 : decode cX3_init 43 = .ok (.iastore, 1) := by decide +kernel
theorem dX3_init_44 : decode cX3_init 44 = .ok (.return_, 1) := by decide +kernel
theorem dX3_readDraft_0 : decode cX3_readDraft 0 = .ok (.aload_n 0, 1) := by decide +kernel
theorem dX3_readDraft_1 : decode cX3_readDraft 1 = .ok (.getfield 22, 3) := by decide +kernel
theorem dX3_readDraft_4 : decode cX3_readDraft 4 = .ok (.iconst 0, 1) := by decide +kernel
theorem dX3_readDraft_5 : decode cX3_readDraft 5 = .ok (.putfield 26, 3) := by decide +kernel
theorem dX3_readDraft_8 : decode cX3_readDraft 8 = .ok (.aload_n 0, 1) := by decide +kernel
theorem dX3_readDraft_9 : decode cX3_readDraft 9 = .ok (.iconst 0, 1) := by decide +kernel
theorem dX3_readDraft_10 : decode cX3_readDraft 10 = .ok (.putfield 32, 3) := by decide +kernel
theorem dX3_readDraft_13 : decode cX3_readDraft 13 = .ok (.aload_n 0, 1) := by decide +kernel
theorem dX3_readDraft_14 : decode cX3_readDraft 14 = .ok (.iconst 0, 1) := by decide +kernel
theorem dX3_readDraft_15 : decode cX3_readDraft 15 = .ok (.putfield 35, 3) := by decide +kernel
theorem dX3_readDraft_18 : decode cX3_readDraft 18 = .ok (.iconst 0, 1) := by decide +kernel
theorem dX3_readDraft_19 : decode cX3_readDraft 19 = .ok (.istore_n 1, 1) := by decide +kernel
theorem dX3_readDraft_20 : decode cX3_readDraft 20 = .ok (.iload_n 1, 1) := by decide +kernel
theorem dX3_readDraft_21 : decode cX3_readDraft 21 = .ok (.bipush 120, 2) := by decide +kernel
theorem dX3_readDraft_23 : decode cX3_readDraft 23 = .ok (.if_icmp .gt 50, 3) := by decide +kernel
theorem dX3_readDraft_26 : decode cX3_readDraft 26 = .ok (.aload_n 0, 1) := by decide +kernel
theorem dX3_readDraft_27 : decode cX3_readDraft 27 = .ok (.invokevirtual 38, 3) := by decide +kernel
theorem dX3_readDraft_30 : decode cX3_readDraft 30 = .ok (.istore_n 2, 1) := by decide +kernel
theorem dX3_readDraft_31 : decode cX3_readDraft 31 = .ok (.iload_n 2, 1) := by decide +kernel
theorem dX3_readDraft_32 : decode cX3_readDraft 32 = .ok (.aload_n 0, 1) := by decide +kernel
theorem dX3_readDraft_33 : decode cX3_readDraft 33 = .ok (.invokevirtual 42, 3) := by decide +kernel
theorem dX3_readDraft_36 : decode cX3_readDraft 36 = .ok (.if_icmp .eq 13, 3) := by decide +kernel
theorem dX3_readDraft_39 : decode cX3_readDraft 39 = .ok (.aload_n 0, 1) := by decide +kernel
theorem dX3_readDraft_40 : decode cX3_readDraft 40 = .ok (.iload_n 2, 1) := by decide +kernel
theorem dX3_readDraft_41 : decode cX3_readDraft 41 = .ok (.invokevirtual 45, 3) := by decide +kernel
theorem dX3_readDraft_44 : decode cX3_readDraft 44 = .ok (.ifCond .ne 23, 3) := by decide +kernel
theorem dX3_readDraft_47 : decode cX3_readDraft 47 = .ok (.iconst 0, 1) := by decide +kernel
theorem dX3_readDraft_48 : decode cX3_readDraft 48 = .ok (.ireturn, 1) := by decide +kernel
theorem dX3_readDraft_49 : decode cX3_readDraft 49 = .ok (.iload_n 2, 1) := by decide +kernel
theorem dX3_readDraft_50 : decode cX3_readDraft 50 = .ok (.ifCond .ne 12, 3) := by decide +kernel
theorem dX3_readDraft_53 : decode cX3_readDraft 53 = .ok (.aload_n 0, 1) := by decide +kernel
theorem dX3_readDraft_54 : decode cX3_readDraft 54 = .ok (.getfield 22, 3) := by decide +kernel
theorem dX3_readDraft_57 : decode cX3_readDraft 57 = .ok (.invokevirtual 49, 3) := by decide +kernel
theorem dX3_readDraft_60 : decode cX3_readDraft 60 = .ok (.iconst 1, 1) := by decide +kernel
theorem dX3_readDraft_61 : decode cX3_readDraft 61 = .ok (.ireturn, 1) := by decide +kernel
theorem dX3_readDraft_62 : decode cX3_readDraft 62 = .ok (.aload_n 0, 1) := by decide +kernel
theorem dX3_readDraft_63 : decode cX3_readDraft 63 = .ok (.iload_n 2, 1) := by decide +kernel
theorem dX3_readDraft_64 : decode cX3_readDraft 64 = .ok (.invokevirtual 52, 3) := by decide +kernel
theorem dX3_readDraft_67 : decode cX3_readDraft 67 = .ok (.iinc 1 1, 3) := by decide +kernel
theorem dX3_readDraft_70 : decode cX3_readDraft 70 = .ok (.goto (-50), 3) := by decide +kernel
theorem dX3_readDraft_73 : decode cX3_readDraft 73 = .ok (.iconst 0, 1) := by decide +kernel
theorem dX3_readDraft_74 : decode cX3_readDraft 74 = .ok (.ireturn, 1) := by decide +kernel
theorem dX3_readStatement_0 : decode cX3_readStatement 0 = .ok (.aload_n 0, 1) := by decide +kernel
theorem dX3_readStatement_1 : decode cX3_readStatement 1 = .ok (.getfield 22, 3) := by decide +kernel
theorem dX3_readStatement_4 : decode cX3_readStatement 4 = .ok (.invokevirtual 56, 3) := by decide +kernel
theorem dX3_readStatement_7 : decode cX3_readStatement 7 = .ok (.ifCond .eq 5, 3) := by decide +kernel
theorem dX3_readStatement_10 : decode cX3_readStatement 10 = .ok (.iconst 0, 1) := by decide +kernel
theorem dX3_readStatement_11 : decode cX3_readStatement 11 = .ok (.ireturn, 1) := by decide +kernel
theorem dX3_readStatement_12 : decode cX3_readStatement 12 = .ok (.iload_n 1, 1) := by decide +kernel
theorem dX3_readStatement_13 : decode cX3_readStatement 13 = .ok (.lookupswitch 105 #[(33, 43), (35, 48), (63, 97), (91, 89)], 43) := by decide +kernel
theorem dX3_readStatement_56 : decode cX3_readStatement 56 = .ok (.aload_n 0, 1) := by decide +kernel
theorem dX3_readStatement_57 : decode cX3_readStatement 57 = .ok (.invokevirtual 60, 3) := by decide +kernel
theorem dX3_readStatement_60 : decode cX3_readStatement 60 = .ok (.ireturn, 1) := by decide +kernel
theorem dX3_readStatement_61 : decode cX3_readStatement 61 = .ok (.aload_n 0, 1) := by decide +kernel
theorem dX3_readStatement_62 : decode cX3_readStatement 62 = .ok (.dup, 1) := by decide +kernel
theorem dX3_readStatement_63 : decode cX3_readStatement 63 = .ok (.getfield 35, 3) := by decide +kernel
theorem dX3_readStatement_66 : decode cX3_readStatement 66 = .ok (.iconst 1, 1) := by decide +kernel
theorem dX3_readStatement_67 : decode cX3_readStatement 67 = .ok (.iadd, 1) := by decide +kernel
theorem dX3_readStatement_68 : decode cX3_readStatement 68 = .ok (.putfield 35, 3) := by decide +kernel
theorem dX3_readStatement_71 : decode cX3_readStatement 71 = .ok (.aload_n 0, 1) := by decide +kernel
theorem dX3_readStatement_72 : decode cX3_readStatement 72 = .ok (.bipush 59, 2) := by decide +kernel
theorem dX3_readStatement_74 : decode cX3_readStatement 74 = .ok (.invokevirtual 63, 3) := by decide +kernel
theorem dX3_readStatement_77 : decode cX3_readStatement 77 = .ok (.ifCond .eq 23, 3) := by decide +kernel
theorem dX3_readStatement_80 : decode cX3_readStatement 80 = .ok (.aload_n 0, 1) := by decide +kernel
theorem dX3_readStatement_81 : decode cX3_readStatement 81 = .ok (.getfield 22, 3) := by decide +kernel
theorem dX3_readStatement_84 : decode cX3_readStatement 84 = .ok (.iconst 3, 1) := by decide +kernel
theorem dX3_readStatement_85 : decode cX3_readStatement 85 = .ok (.iconst 0, 1) := by decide +kernel
theorem dX3_readStatement_86 : decode cX3_readStatement 86 = .ok (.aload_n 0, 1) := by decide +kernel
theorem dX3_readStatement_87 : decode cX3_readStatement 87 = .ok (.invokevirtual 66, 3) := by decide +kernel
theorem dX3_readStatement_90 : decode cX3_readStatement 90 = .ok (.invokevirtual 69, 3) := by decide +kernel
theorem dX3_readStatement_93 : decode cX3_readStatement 93 = .ok (.ifCond .eq 7, 3) := by decide +kernel
theorem dX3_readStatement_96 : decode cX3_readStatement 96 = .ok (.iconst 1, 1) := by decide +kernel
theorem dX3_readStatement_97 : decode cX3_readStatement 97 = .ok (.goto 4, 3) := by decide +kernel
theorem dX3_readStatement_100 : decode cX3_readStatement 100 = .ok (.iconst 0, 1) := by decide +kernel
theorem dX3_readStatement_101 : decode cX3_readStatement 101 = .ok (.ireturn, 1) := by decide +kernel
theorem dX3_readStatement_102 : decode cX3_readStatement 102 = .ok (.aload_n 0, 1) := by decide +kernel
theorem dX3_readStatement_103 : decode cX3_readStatement 103 = .ok (.iconst 4, 1) := by decide +kernel
theorem dX3_readStatement_104 : decode cX3_readStatement 104 = .ok (.bipush 93, 2) := by decide +kernel
theorem dX3_readStatement_106 : decode cX3_readStatement 106 = .ok (.invokevirtual 73, 3) := by decide +kernel
theorem dX3_readStatement_109 : decode cX3_readStatement 109 = .ok (.ireturn, 1) := by decide +kernel
theorem dX3_readStatement_110 : decode cX3_readStatement 110 = .ok (.aload_n 0, 1) := by decide +kernel
theorem dX3_readStatement_111 : decode cX3_readStatement 111 = .ok (.iconst 5, 1) := by decide +kernel
theorem dX3_readStatement_112 : decode cX3_readStatement 112 = .ok (.bipush 58, 2) := by decide +kernel
theorem dX3_readStatement_114 : decode cX3_readStatement 114 = .ok (.invokevirtual 73, 3) := by decide +kernel
theorem dX3_readStatement_117 : decode cX3_readStatement 117 = .ok (.ireturn, 1) := by decide +kernel
theorem dX3_readStatement_118 : decode cX3_readStatement 118 = .ok (.aload_n 0, 1) := by decide +kernel
theorem dX3_readStatement_119 : decode cX3_readStatement 119 = .ok (.invokevirtual 77, 3) := by decide +kernel
theorem dX3_readStatement_122 : decode cX3_readStatement 122 = .ok (.ireturn, 1) := by decide +kernel
theorem dX3_readTell_0 : decode cX3_readTell 0 = .ok (.aload_n 0, 1) := by decide +kernel
theorem dX3_readTell_1 : decode cX3_readTell 1 = .ok (.dup, 1) := by decide +kernel
theorem dX3_readTell_2 : decode cX3_readTell 2 = .ok (.getfield 35, 3) := by decide +kernel
theorem dX3_readTell_5 : decode cX3_readTell 5 = .ok (.iconst 1, 1) := by decide +kernel
theorem dX3_readTell_6 : decode cX3_readTell 6 = .ok (.iadd, 1) := by decide +kernel
theorem dX3_readTell_7 : decode cX3_readTell 7 = .ok (.putfield 35, 3) := by decide +kernel
theorem dX3_readTell_10 : decode cX3_readTell 10 = .ok (.aload_n 0, 1) := by decide +kernel
theorem dX3_readTell_11 : decode cX3_readTell 11 = .ok (.invokevirtual 80, 3) := by decide +kernel
theorem dX3_readTell_14 : decode cX3_readTell 14 = .ok (.istore_n 1, 1) := by decide +kernel
theorem dX3_readTell_15 : decode cX3_readTell 15 = .ok (.iload_n 1, 1) := by decide +kernel
theorem dX3_readTell_16 : decode cX3_readTell 16 = .ok (.iconst (-1), 1) := by decide +kernel
theorem dX3_readTell_17 : decode cX3_readTell 17 = .ok (.if_icmp .eq 32, 3) := by decide +kernel
theorem dX3_readTell_20 : decode cX3_readTell 20 = .ok (.aload_n 0, 1) := by decide +kernel
theorem dX3_readTell_21 : decode cX3_readTell 21 = .ok (.bipush 59, 2) := by decide +kernel
theorem dX3_readTell_23 : decode cX3_readTell 23 = .ok (.invokevirtual 63, 3) := by decide +kernel
theorem dX3_readTell_26 : decode cX3_readTell 26 = .ok (.ifCond .eq 23, 3) := by decide +kernel
theorem dX3_readTell_29 : decode cX3_readTell 29 = .ok (.aload_n 0, 1) := by decide +kernel
theorem dX3_readTell_30 : decode cX3_readTell 30 = .ok (.getfield 22, 3) := by decide +kernel
theorem dX3_readTell_33 : decode cX3_readTell 33 = .ok (.iconst 2, 1) := by decide +kernel
theorem dX3_readTell_34 : decode cX3_readTell 34 = .ok (.iload_n 1, 1) := by decide +kernel
theorem dX3_readTell_35 : decode cX3_readTell 35 = .ok (.aload_n 0, 1) := by decide +kernel
theorem dX3_readTell_36 : decode cX3_readTell 36 = .ok (.invokevirtual 66, 3) := by decide +kernel
theorem dX3_readTell_39 : decode cX3_readTell 39 = .ok (.invokevirtual 69, 3) := by decide +kernel
theorem dX3_readTell_42 : decode cX3_readTell 42 = .ok (.ifCond .eq 7, 3) := by decide +kernel
theorem dX3_readTell_45 : decode cX3_readTell 45 = .ok (.iconst 1, 1) := by decide +kernel
theorem dX3_readTell_46 : decode cX3_readTell 46 = .ok (.goto 4, 3) := by decide +kernel
theorem dX3_readTell_49 : decode cX3_readTell 49 = .ok (.iconst 0, 1) := by decide +kernel
theorem dX3_readTell_50 : decode cX3_readTell 50 = .ok (.ireturn, 1) := by decide +kernel
theorem dX3_readSetting_0 : decode cX3_readSetting 0 = .ok (.aload_n 0, 1) := by decide +kernel
theorem dX3_readSetting_1 : decode cX3_readSetting 1 = .ok (.invokevirtual 80, 3) := by decide +kernel
theorem dX3_readSetting_4 : decode cX3_readSetting 4 = .ok (.istore_n 1, 1) := by decide +kernel
theorem dX3_readSetting_5 : decode cX3_readSetting 5 = .ok (.iload_n 1, 1) := by decide +kernel
theorem dX3_readSetting_6 : decode cX3_readSetting 6 = .ok (.iconst (-1), 1) := by decide +kernel
theorem dX3_readSetting_7 : decode cX3_readSetting 7 = .ok (.if_icmp .eq 12, 3) := by decide +kernel
theorem dX3_readSetting_10 : decode cX3_readSetting 10 = .ok (.aload_n 0, 1) := by decide +kernel
theorem dX3_readSetting_11 : decode cX3_readSetting 11 = .ok (.bipush 61, 2) := by decide +kernel
theorem dX3_readSetting_13 : decode cX3_readSetting 13 = .ok (.invokevirtual 63, 3) := by decide +kernel
theorem dX3_readSetting_16 : decode cX3_readSetting 16 = .ok (.ifCond .ne 5, 3) := by decide +kernel
theorem dX3_readSetting_19 : decode cX3_readSetting 19 = .ok (.iconst 0, 1) := by decide +kernel
theorem dX3_readSetting_20 : decode cX3_readSetting 20 = .ok (.ireturn, 1) := by decide +kernel
theorem dX3_readSetting_21 : decode cX3_readSetting 21 = .ok (.aload_n 0, 1) := by decide +kernel
theorem dX3_readSetting_22 : decode cX3_readSetting 22 = .ok (.invokevirtual 83, 3) := by decide +kernel
theorem dX3_readSetting_25 : decode cX3_readSetting 25 = .ok (.istore_n 2, 1) := by decide +kernel
theorem dX3_readSetting_26 : decode cX3_readSetting 26 = .ok (.iload_n 2, 1) := by decide +kernel
theorem dX3_readSetting_27 : decode cX3_readSetting 27 = .ok (.iconst (-1), 1) := by decide +kernel
theorem dX3_readSetting_28 : decode cX3_readSetting 28 = .ok (.if_icmp .ne 5, 3) := by decide +kernel
theorem dX3_readSetting_31 : decode cX3_readSetting 31 = .ok (.iconst 0, 1) := by decide +kernel
theorem dX3_readSetting_32 : decode cX3_readSetting 32 = .ok (.ireturn, 1) := by decide +kernel
theorem dX3_readSetting_33 : decode cX3_readSetting 33 = .ok (.aload_n 0, 1) := by decide +kernel
theorem dX3_readSetting_34 : decode cX3_readSetting 34 = .ok (.invokevirtual 86, 3) := by decide +kernel
theorem dX3_readSetting_37 : decode cX3_readSetting 37 = .ok (.istore_n 3, 1) := by decide +kernel
theorem dX3_readSetting_38 : decode cX3_readSetting 38 = .ok (.iload_n 3, 1) := by decide +kernel
theorem dX3_readSetting_39 : decode cX3_readSetting 39 = .ok (.ifCond .ne 7, 3) := by decide +kernel
theorem dX3_readSetting_42 : decode cX3_readSetting 42 = .ok (.iconst 0, 1) := by decide +kernel
theorem dX3_readSetting_43 : decode cX3_readSetting 43 = .ok (.goto 7, 3) := by decide +kernel
theorem dX3_readSetting_46 : decode cX3_readSetting 46 = .ok (.aload_n 0, 1) := by decide +kernel
theorem dX3_readSetting_47 : decode cX3_readSetting 47 = .ok (.invokevirtual 83, 3) := by decide +kernel
theorem dX3_readSetting_50 : decode cX3_readSetting 50 = .ok (.istore 4, 2) := by decide +kernel
theorem dX3_readSetting_52 : decode cX3_readSetting 52 = .ok (.iload 4, 2) := by decide +kernel
theorem dX3_readSetting_54 : decode cX3_readSetting 54 = .ok (.iconst (-1), 1) := by decide +kernel
theorem dX3_readSetting_55 : decode cX3_readSetting 55 = .ok (.if_icmp .eq 28, 3) := by decide +kernel
theorem dX3_readSetting_58 : decode cX3_readSetting 58 = .ok (.aload_n 0, 1) := by decide +kernel
theorem dX3_readSetting_59 : decode cX3_readSetting 59 = .ok (.bipush 59, 2) := by decide +kernel
theorem dX3_readSetting_61 : decode cX3_readSetting 61 = .ok (.invokevirtual 63, 3) := by decide +kernel
theorem dX3_readSetting_64 : decode cX3_readSetting 64 = .ok (.ifCond .eq 19, 3) := by decide +kernel
theorem dX3_readSetting_67 : decode cX3_readSetting 67 = .ok (.aload_n 0, 1) := by decide +kernel
theorem dX3_readSetting_68 : decode cX3_readSetting 68 = .ok (.getfield 22, 3) := by decide +kernel
theorem dX3_readSetting_71 : decode cX3_readSetting 71 = .ok (.iconst 1, 1) := by decide +kernel
theorem dX3_readSetting_72 : decode cX3_readSetting 72 = .ok (.iload_n 1, 1) := by decide +kernel
theorem dX3_readSetting_73 : decode cX3_readSetting 73 = .ok (.aload_n 0, 1) := by decide +kernel
theorem dX3_readSetting_74 : decode cX3_readSetting 74 = .ok (.invokevirtual 66, 3) := by decide +kernel
theorem dX3_readSetting_77 : decode cX3_readSetting 77 = .ok (.invokevirtual 69, 3) := by decide +kernel
theorem dX3_readSetting_80 : decode cX3_readSetting 80 = .ok (.ifCond .ne 5, 3) := by decide +kernel
theorem dX3_readSetting_83 : decode cX3_readSetting 83 = .ok (.iconst 0, 1) := by decide +kernel
theorem dX3_readSetting_84 : decode cX3_readSetting 84 = .ok (.ireturn, 1) := by decide +kernel
theorem dX3_readSetting_85 : decode cX3_readSetting 85 = .ok (.aload_n 0, 1) := by decide +kernel
theorem dX3_readSetting_86 : decode cX3_readSetting 86 = .ok (.getfield 22, 3) := by decide +kernel
theorem dX3_readSetting_89 : decode cX3_readSetting 89 = .ok (.iload_n 2, 1) := by decide +kernel
theorem dX3_readSetting_90 : decode cX3_readSetting 90 = .ok (.iload_n 3, 1) := by decide +kernel
theorem dX3_readSetting_91 : decode cX3_readSetting 91 = .ok (.iload 4, 2) := by decide +kernel
theorem dX3_readSetting_93 : decode cX3_readSetting 93 = .ok (.invokevirtual 89, 3) := by decide +kernel
theorem dX3_readSetting_96 : decode cX3_readSetting 96 = .ok (.iconst 1, 1) := by decide +kernel
theorem dX3_readSetting_97 : decode cX3_readSetting 97 = .ok (.ireturn, 1) := by decide +kernel
theorem dX3_readOpening_0 : decode cX3_readOpening 0 = .ok (.aload_n 0, 1) := by decide +kernel
theorem dX3_readOpening_1 : decode cX3_readOpening 1 = .ok (.getfield 32, 3) := by decide +kernel
theorem dX3_readOpening_4 : decode cX3_readOpening 4 = .ok (.iconst 0, 1) := by decide +kernel
theorem dX3_readOpening_5 : decode cX3_readOpening 5 = .ok (.iconst 4, 1) := by decide +kernel
theorem dX3_readOpening_6 : decode cX3_readOpening 6 = .ok (.invokestatic 93, 3) := by decide +kernel
theorem dX3_readOpening_9 : decode cX3_readOpening 9 = .ok (.ifCond .ne 5, 3) := by decide +kernel
theorem dX3_readOpening_12 : decode cX3_readOpening 12 = .ok (.iconst 0, 1) := by decide +kernel
theorem dX3_readOpening_13 : decode cX3_readOpening 13 = .ok (.ireturn, 1) := by decide +kernel
theorem dX3_readOpening_14 : decode cX3_readOpening 14 = .ok (.aload_n 0, 1) := by decide +kernel
theorem dX3_readOpening_15 : decode cX3_readOpening 15 = .ok (.dup, 1) := by decide +kernel
theorem dX3_readOpening_16 : decode cX3_readOpening 16 = .ok (.getfield 35, 3) := by decide +kernel
theorem dX3_readOpening_19 : decode cX3_readOpening 19 = .ok (.iconst 1, 1) := by decide +kernel
theorem dX3_readOpening_20 : decode cX3_readOpening 20 = .ok (.iadd, 1) := by decide +kernel
theorem dX3_readOpening_21 : decode cX3_readOpening 21 = .ok (.putfield 35, 3) := by decide +kernel
theorem dX3_readOpening_24 : decode cX3_readOpening 24 = .ok (.aload_n 0, 1) := by decide +kernel
theorem dX3_readOpening_25 : decode cX3_readOpening 25 = .ok (.invokevirtual 80, 3) := by decide +kernel
theorem dX3_readOpening_28 : decode cX3_readOpening 28 = .ok (.istore_n 3, 1) := by decide +kernel
theorem dX3_readOpening_29 : decode cX3_readOpening 29 = .ok (.iload_n 3, 1) := by decide +kernel
theorem dX3_readOpening_30 : decode cX3_readOpening 30 = .ok (.iconst (-1), 1) := by decide +kernel
theorem dX3_readOpening_31 : decode cX3_readOpening 31 = .ok (.if_icmp .eq 19, 3) := by decide +kernel
theorem dX3_readOpening_34 : decode cX3_readOpening 34 = .ok (.aload_n 0, 1) := by decide +kernel
theorem dX3_readOpening_35 : decode cX3_readOpening 35 = .ok (.getfield 22, 3) := by decide +kernel
theorem dX3_readOpening_38 : decode cX3_readOpening 38 = .ok (.iload_n 1, 1) := by decide +kernel
theorem dX3_readOpening_39 : decode cX3_readOpening 39 = .ok (.iload_n 3, 1) := by decide +kernel
theorem dX3_readOpening_40 : decode cX3_readOpening 40 = .ok (.aload_n 0, 1) := by decide +kernel
theorem dX3_readOpening_41 : decode cX3_readOpening 41 = .ok (.invokevirtual 66, 3) := by decide +kernel
theorem dX3_readOpening_44 : decode cX3_readOpening 44 = .ok (.invokevirtual 69, 3) := by decide +kernel
theorem dX3_readOpening_47 : decode cX3_readOpening 47 = .ok (.ifCond .ne 5, 3) := by decide +kernel
theorem dX3_readOpening_50 : decode cX3_readOpening 50 = .ok (.iconst 0, 1) := by decide +kernel
theorem dX3_readOpening_51 : decode cX3_readOpening 51 = .ok (.ireturn, 1) := by decide +kernel
theorem dX3_readOpening_52 : decode cX3_readOpening 52 = .ok (.aload_n 0, 1) := by decide +kernel
theorem dX3_readOpening_53 : decode cX3_readOpening 53 = .ok (.dup, 1) := by decide +kernel
theorem dX3_readOpening_54 : decode cX3_readOpening 54 = .ok (.getfield 32, 3) := by decide +kernel
theorem dX3_readOpening_57 : decode cX3_readOpening 57 = .ok (.iconst 1, 1) := by decide +kernel
theorem dX3_readOpening_58 : decode cX3_readOpening 58 = .ok (.iadd, 1) := by decide +kernel
theorem dX3_readOpening_59 : decode cX3_readOpening 59 = .ok (.putfield 32, 3) := by decide +kernel
theorem dX3_readOpening_62 : decode cX3_readOpening 62 = .ok (.aload_n 0, 1) := by decide +kernel
theorem dX3_readOpening_63 : decode cX3_readOpening 63 = .ok (.getfield 9, 3) := by decide +kernel
theorem dX3_readOpening_66 : decode cX3_readOpening 66 = .ok (.aload_n 0, 1) := by decide +kernel
theorem dX3_readOpening_67 : decode cX3_readOpening 67 = .ok (.getfield 32, 3) := by decide +kernel
theorem dX3_readOpening_70 : decode cX3_readOpening 70 = .ok (.aload_n 0, 1) := by decide +kernel
theorem dX3_readOpening_71 : decode cX3_readOpening 71 = .ok (.getfield 22, 3) := by decide +kernel
theorem dX3_readOpening_74 : decode cX3_readOpening 74 = .ok (.getfield 26, 3) := by decide +kernel
theorem dX3_readOpening_77 : decode cX3_readOpening 77 = .ok (.iconst 1, 1) := by decide +kernel
theorem dX3_readOpening_78 : decode cX3_readOpening 78 = .ok (.isub, 1) := by decide +kernel
theorem dX3_readOpening_79 : decode cX3_readOpening 79 = .ok (.iastore, 1) := by decide +kernel
theorem dX3_readOpening_80 : decode cX3_readOpening 80 = .ok (.aload_n 0, 1) := by decide +kernel
theorem dX3_readOpening_81 : decode cX3_readOpening 81 = .ok (.getfield 15, 3) := by decide +kernel
theorem dX3_readOpening_84 : decode cX3_readOpening 84 = .ok (.aload_n 0, 1) := by decide +kernel
theorem dX3_readOpening_85 : decode cX3_readOpening 85 = .ok (.getfield 32, 3) := by decide +kernel
theorem dX3_readOpening_88 : decode cX3_readOpening 88 = .ok (.iload_n 2, 1) := by decide +kernel
theorem dX3_readOpening_89 : decode cX3_readOpening 89 = .ok (.iastore, 1) := by decide +kernel
theorem dX3_readOpening_90 : decode cX3_readOpening 90 = .ok (.iconst 1, 1) := by decide +kernel
theorem dX3_readOpening_91 : decode cX3_readOpening 91 = .ok (.ireturn, 1) := by decide +kernel
theorem dX3_goOn_0 : decode cX3_goOn 0 = .ok (.aload_n 0, 1) := by decide +kernel
theorem dX3_goOn_1 : decode cX3_goOn 1 = .ok (.dup, 1) := by decide +kernel
theorem dX3_goOn_2 : decode cX3_goOn 2 = .ok (.getfield 35, 3) := by decide +kernel
theorem dX3_goOn_5 : decode cX3_goOn 5 = .ok (.iconst 1, 1) := by decide +kernel
theorem dX3_goOn_6 : decode cX3_goOn 6 = .ok (.iadd, 1) := by decide +kernel
theorem dX3_goOn_7 : decode cX3_goOn 7 = .ok (.putfield 35, 3) := by decide +kernel
theorem dX3_goOn_10 : decode cX3_goOn 10 = .ok (.aload_n 0, 1) := by decide +kernel
theorem dX3_goOn_11 : decode cX3_goOn 11 = .ok (.getfield 32, 3) := by decide +kernel
theorem dX3_goOn_14 : decode cX3_goOn 14 = .ok (.iconst 1, 1) := by decide +kernel
theorem dX3_goOn_15 : decode cX3_goOn 15 = .ok (.iconst 5, 1) := by decide +kernel
theorem dX3_goOn_16 : decode cX3_goOn 16 = .ok (.invokestatic 93, 3) := by decide +kernel
theorem dX3_goOn_19 : decode cX3_goOn 19 = .ok (.ifCond .ne 4, 3) := by decide +kernel
theorem dX3_goOn_22 : decode cX3_goOn 22 = .ok (.return_, 1) := by decide +kernel
theorem dX3_goOn_23 : decode cX3_goOn 23 = .ok (.iload_n 1, 1) := by decide +kernel
theorem dX3_goOn_24 : decode cX3_goOn 24 = .ok (.bipush 58, 2) := by decide +kernel
theorem dX3_goOn_26 : decode cX3_goOn 26 = .ok (.if_icmp .ne 28, 3) := by decide +kernel
theorem dX3_goOn_29 : decode cX3_goOn 29 = .ok (.aload_n 0, 1) := by decide +kernel
theorem dX3_goOn_30 : decode cX3_goOn 30 = .ok (.getfield 22, 3) := by decide +kernel
theorem dX3_goOn_33 : decode cX3_goOn 33 = .ok (.aload_n 0, 1) := by decide +kernel
theorem dX3_goOn_34 : decode cX3_goOn 34 = .ok (.invokevirtual 66, 3) := by decide +kernel
theorem dX3_goOn_37 : decode cX3_goOn 37 = .ok (.invokevirtual 96, 3) := by decide +kernel
theorem dX3_goOn_40 : decode cX3_goOn 40 = .ok (.aload_n 0, 1) := by decide +kernel
theorem dX3_goOn_41 : decode cX3_goOn 41 = .ok (.getfield 15, 3) := by decide +kernel
theorem dX3_goOn_44 : decode cX3_goOn 44 = .ok (.aload_n 0, 1) := by decide +kernel
theorem dX3_goOn_45 : decode cX3_goOn 45 = .ok (.getfield 32, 3) := by decide +kernel
theorem dX3_goOn_48 : decode cX3_goOn 48 = .ok (.bipush 46, 2) := by decide +kernel
theorem dX3_goOn_50 : decode cX3_goOn 50 = .ok (.iastore, 1) := by decide +kernel
theorem dX3_goOn_51 : decode cX3_goOn 51 = .ok (.goto 24, 3) := by decide +kernel
theorem dX3_goOn_54 : decode cX3_goOn 54 = .ok (.aload_n 0, 1) := by decide +kernel
theorem dX3_goOn_55 : decode cX3_goOn 55 = .ok (.getfield 22, 3) := by decide +kernel
theorem dX3_goOn_58 : decode cX3_goOn 58 = .ok (.aload_n 0, 1) := by decide +kernel
theorem dX3_goOn_59 : decode cX3_goOn 59 = .ok (.invokevirtual 66, 3) := by decide +kernel
theorem dX3_goOn_62 : decode cX3_goOn 62 = .ok (.invokevirtual 99, 3) := by decide +kernel
theorem dX3_goOn_65 : decode cX3_goOn 65 = .ok (.aload_n 0, 1) := by decide +kernel
theorem dX3_goOn_66 : decode cX3_goOn 66 = .ok (.dup, 1) := by decide +kernel
theorem dX3_goOn_67 : decode cX3_goOn 67 = .ok (.getfield 32, 3) := by decide +kernel
theorem dX3_goOn_70 : decode cX3_goOn 70 = .ok (.iconst 1, 1) := by decide +kernel
theorem dX3_goOn_71 : decode cX3_goOn 71 = .ok (.isub, 1) := by decide +kernel
theorem dX3_goOn_72 : decode cX3_goOn 72 = .ok (.putfield 32, 3) := by decide +kernel
theorem dX3_goOn_75 : decode cX3_goOn 75 = .ok (.return_, 1) := by decide +kernel
theorem dX3_innermost_0 : decode cX3_innermost 0 = .ok (.aload_n 0, 1) := by decide +kernel
theorem dX3_innermost_1 : decode cX3_innermost 1 = .ok (.getfield 32, 3) := by decide +kernel
theorem dX3_innermost_4 : decode cX3_innermost 4 = .ok (.iconst 0, 1) := by decide +kernel
theorem dX3_innermost_5 : decode cX3_innermost 5 = .ok (.iconst 5, 1) := by decide +kernel
theorem dX3_innermost_6 : decode cX3_innermost 6 = .ok (.invokestatic 93, 3) := by decide +kernel
theorem dX3_innermost_9 : decode cX3_innermost 9 = .ok (.ifCond .eq 15, 3) := by decide +kernel
theorem dX3_innermost_12 : decode cX3_innermost 12 = .ok (.aload_n 0, 1) := by decide +kernel
theorem dX3_innermost_13 : decode cX3_innermost 13 = .ok (.getfield 9, 3) := by decide +kernel
theorem dX3_innermost_16 : decode cX3_innermost 16 = .ok (.aload_n 0, 1) := by decide +kernel
theorem dX3_innermost_17 : decode cX3_innermost 17 = .ok (.getfield 32, 3) := by decide +kernel
theorem dX3_innermost_20 : decode cX3_innermost 20 = .ok (.iaload, 1) := by decide +kernel
theorem dX3_innermost_21 : decode cX3_innermost 21 = .ok (.goto 4, 3) := by decide +kernel
theorem dX3_innermost_24 : decode cX3_innermost 24 = .ok (.iconst (-1), 1) := by decide +kernel
theorem dX3_innermost_25 : decode cX3_innermost 25 = .ok (.ireturn, 1) := by decide +kernel
theorem dX3_awaitedSign_0 : decode cX3_awaitedSign 0 = .ok (.aload_n 0, 1) := by decide +kernel
theorem dX3_awaitedSign_1 : decode cX3_awaitedSign 1 = .ok (.getfield 32, 3) := by decide +kernel
theorem dX3_awaitedSign_4 : decode cX3_awaitedSign 4 = .ok (.iconst 0, 1) := by decide +kernel
theorem dX3_awaitedSign_5 : decode cX3_awaitedSign 5 = .ok (.iconst 5, 1) := by decide +kernel
theorem dX3_awaitedSign_6 : decode cX3_awaitedSign 6 = .ok (.invokestatic 93, 3) := by decide +kernel
theorem dX3_awaitedSign_9 : decode cX3_awaitedSign 9 = .ok (.ifCond .eq 15, 3) := by decide +kernel
theorem dX3_awaitedSign_12 : decode cX3_awaitedSign 12 = .ok (.aload_n 0, 1) := by decide +kernel
theorem dX3_awaitedSign_13 : decode cX3_awaitedSign 13 = .ok (.getfield 15, 3) := by decide +kernel
theorem dX3_awaitedSign_16 : decode cX3_awaitedSign 16 = .ok (.aload_n 0, 1) := by decide +kernel
theorem dX3_awaitedSign_17 : decode cX3_awaitedSign 17 = .ok (.getfield 32, 3) := by decide +kernel
theorem dX3_awaitedSign_20 : decode cX3_awaitedSign 20 = .ok (.iaload, 1) := by decide +kernel
theorem dX3_awaitedSign_21 : decode cX3_awaitedSign 21 = .ok (.goto 4, 3) := by decide +kernel
theorem dX3_awaitedSign_24 : decode cX3_awaitedSign 24 = .ok (.iconst 0, 1) := by decide +kernel
theorem dX3_awaitedSign_25 : decode cX3_awaitedSign 25 = .ok (.ireturn, 1) := by decide +kernel
theorem dX3_nextSign_0 : decode cX3_nextSign 0 = .ok (.iconst 0, 1) := by decide +kernel
theorem dX3_nextSign_1 : decode cX3_nextSign 1 = .ok (.istore_n 1, 1) := by decide +kernel
theorem dX3_nextSign_2 : decode cX3_nextSign 2 = .ok (.iload_n 1, 1) := by decide +kernel
theorem dX3_nextSign_3 : decode cX3_nextSign 3 = .ok (.bipush 120, 2) := by decide +kernel
theorem dX3_nextSign_5 : decode cX3_nextSign 5 = .ok (.if_icmp .ge 35, 3) := by decide +kernel
theorem dX3_nextSign_8 : decode cX3_nextSign 8 = .ok (.aload_n 0, 1) := by decide +kernel
theorem dX3_nextSign_9 : decode cX3_nextSign 9 = .ok (.getfield 18, 3) := by decide +kernel
theorem dX3_nextSign_12 : decode cX3_nextSign 12 = .ok (.aload_n 0, 1) := by decide +kernel
theorem dX3_nextSign_13 : decode cX3_nextSign 13 = .ok (.getfield 35, 3) := by decide +kernel
theorem dX3_nextSign_16 : decode cX3_nextSign 16 = .ok (.invokevirtual 102, 3) := by decide +kernel
theorem dX3_nextSign_19 : decode cX3_nextSign 19 = .ok (.bipush 32, 2) := by decide +kernel
theorem dX3_nextSign_21 : decode cX3_nextSign 21 = .ok (.if_icmp .ne 19, 3) := by decide +kernel
theorem dX3_nextSign_24 : decode cX3_nextSign 24 = .ok (.aload_n 0, 1) := by decide +kernel
theorem dX3_nextSign_25 : decode cX3_nextSign 25 = .ok (.dup, 1) := by decide +kernel
theorem dX3_nextSign_26 : decode cX3_nextSign 26 = .ok (.getfield 35, 3) := by decide +kernel
theorem dX3_nextSign_29 : decode cX3_nextSign 29 = .ok (.iconst 1, 1) := by decide +kernel
theorem dX3_nextSign_30 : decode cX3_nextSign 30 = .ok (.iadd, 1) := by decide +kernel
theorem dX3_nextSign_31 : decode cX3_nextSign 31 = .ok (.putfield 35, 3) := by decide +kernel
theorem dX3_nextSign_34 : decode cX3_nextSign 34 = .ok (.iinc 1 1, 3) := by decide +kernel
theorem dX3_nextSign_37 : decode cX3_nextSign 37 = .ok (.goto (-35), 3) := by decide +kernel
theorem dX3_nextSign_40 : decode cX3_nextSign 40 = .ok (.aload_n 0, 1) := by decide +kernel
theorem dX3_nextSign_41 : decode cX3_nextSign 41 = .ok (.getfield 18, 3) := by decide +kernel
theorem dX3_nextSign_44 : decode cX3_nextSign 44 = .ok (.aload_n 0, 1) := by decide +kernel
theorem dX3_nextSign_45 : decode cX3_nextSign 45 = .ok (.getfield 35, 3) := by decide +kernel
theorem dX3_nextSign_48 : decode cX3_nextSign 48 = .ok (.invokevirtual 102, 3) := by decide +kernel
theorem dX3_nextSign_51 : decode cX3_nextSign 51 = .ok (.ireturn, 1) := by decide +kernel
theorem dX3_take_0 : decode cX3_take 0 = .ok (.aload_n 0, 1) := by decide +kernel
theorem dX3_take_1 : decode cX3_take 1 = .ok (.invokevirtual 38, 3) := by decide +kernel
theorem dX3_take_4 : decode cX3_take 4 = .ok (.iload_n 1, 1) := by decide +kernel
theorem dX3_take_5 : decode cX3_take 5 = .ok (.if_icmp .eq 5, 3) := by decide +kernel
theorem dX3_take_8 : decode cX3_take 8 = .ok (.iconst 0, 1) := by decide +kernel
theorem dX3_take_9 : decode cX3_take 9 = .ok (.ireturn, 1) := by decide +kernel
theorem dX3_take_10 : decode cX3_take 10 = .ok (.aload_n 0, 1) := by decide +kernel
theorem dX3_take_11 : decode cX3_take 11 = .ok (.dup, 1) := by decide +kernel
theorem dX3_take_12 : decode cX3_take 12 = .ok (.getfield 35, 3) := by decide +kernel
theorem dX3_take_15 : decode cX3_take 15 = .ok (.iconst 1, 1) := by decide +kernel
theorem dX3_take_16 : decode cX3_take 16 = .ok (.iadd, 1) := by decide +kernel
theorem dX3_take_17 : decode cX3_take 17 = .ok (.putfield 35, 3) := by decide +kernel
theorem dX3_take_20 : decode cX3_take 20 = .ok (.iconst 1, 1) := by decide +kernel
theorem dX3_take_21 : decode cX3_take 21 = .ok (.ireturn, 1) := by decide +kernel
theorem dX3_takeCell_0 : decode cX3_takeCell 0 = .ok (.aload_n 0, 1) := by decide +kernel
theorem dX3_takeCell_1 : decode cX3_takeCell 1 = .ok (.invokevirtual 38, 3) := by decide +kernel
theorem dX3_takeCell_4 : decode cX3_takeCell 4 = .ok (.bipush 97, 2) := by decide +kernel
theorem dX3_takeCell_6 : decode cX3_takeCell 6 = .ok (.isub, 1) := by decide +kernel
theorem dX3_takeCell_7 : decode cX3_takeCell 7 = .ok (.istore_n 1, 1) := by decide +kernel
theorem dX3_takeCell_8 : decode cX3_takeCell 8 = .ok (.iload_n 1, 1) := by decide +kernel
theorem dX3_takeCell_9 : decode cX3_takeCell 9 = .ok (.invokestatic 108, 3) := by decide +kernel
theorem dX3_takeCell_12 : decode cX3_takeCell 12 = .ok (.ifCond .ne 5, 3) := by decide +kernel
theorem dX3_takeCell_15 : decode cX3_takeCell 15 = .ok (.iconst (-1), 1) := by decide +kernel
theorem dX3_takeCell_16 : decode cX3_takeCell 16 = .ok (.ireturn, 1) := by decide +kernel
theorem dX3_takeCell_17 : decode cX3_takeCell 17 = .ok (.aload_n 0, 1) := by decide +kernel
theorem dX3_takeCell_18 : decode cX3_takeCell 18 = .ok (.dup, 1) := by decide +kernel
theorem dX3_takeCell_19 : decode cX3_takeCell 19 = .ok (.getfield 35, 3) := by decide +kernel
theorem dX3_takeCell_22 : decode cX3_takeCell 22 = .ok (.iconst 1, 1) := by decide +kernel
theorem dX3_takeCell_23 : decode cX3_takeCell 23 = .ok (.iadd, 1) := by decide +kernel
theorem dX3_takeCell_24 : decode cX3_takeCell 24 = .ok (.putfield 35, 3) := by decide +kernel
theorem dX3_takeCell_27 : decode cX3_takeCell 27 = .ok (.iload_n 1, 1) := by decide +kernel
theorem dX3_takeCell_28 : decode cX3_takeCell 28 = .ok (.ireturn, 1) := by decide +kernel
theorem dX3_takeOperator_0 : decode cX3_takeOperator 0 = .ok (.aload_n 0, 1) := by decide +kernel
theorem dX3_takeOperator_1 : decode cX3_takeOperator 1 = .ok (.invokevirtual 38, 3) := by decide +kernel
theorem dX3_takeOperator_4 : decode cX3_takeOperator 4 = .ok (.istore_n 1, 1) := by decide +kernel
theorem dX3_takeOperator_5 : decode cX3_takeOperator 5 = .ok (.iload_n 1, 1) := by decide +kernel
theorem dX3_takeOperator_6 : decode cX3_takeOperator 6 = .ok (.bipush 43, 2) := by decide +kernel
theorem dX3_takeOperator_8 : decode cX3_takeOperator 8 = .ok (.if_icmp .eq 17, 3) := by decide +kernel
theorem dX3_takeOperator_11 : decode cX3_takeOperator 11 = .ok (.iload_n 1, 1) := by decide +kernel
theorem dX3_takeOperator_12 : decode cX3_takeOperator 12 = .ok (.bipush 45, 2) := by decide +kernel
theorem dX3_takeOperator_14 : decode cX3_takeOperator 14 = .ok (.if_icmp .eq 11, 3) := by decide +kernel
theorem dX3_takeOperator_17 : decode cX3_takeOperator 17 = .ok (.iload_n 1, 1) := by decide +kernel
theorem dX3_takeOperator_18 : decode cX3_takeOperator 18 = .ok (.bipush 42, 2) := by decide +kernel
theorem dX3_takeOperator_20 : decode cX3_takeOperator 20 = .ok (.if_icmp .eq 5, 3) := by decide +kernel
theorem dX3_takeOperator_23 : decode cX3_takeOperator 23 = .ok (.iconst 0, 1) := by decide +kernel
theorem dX3_takeOperator_24 : decode cX3_takeOperator 24 = .ok (.ireturn, 1) := by decide +kernel
theorem dX3_takeOperator_25 : decode cX3_takeOperator 25 = .ok (.aload_n 0, 1) := by decide +kernel
theorem dX3_takeOperator_26 : decode cX3_takeOperator 26 = .ok (.dup, 1) := by decide +kernel
theorem dX3_takeOperator_27 : decode cX3_takeOperator 27 = .ok (.getfield 35, 3) := by decide +kernel
theorem dX3_takeOperator_30 : decode cX3_takeOperator 30 = .ok (.iconst 1, 1) := by decide +kernel
theorem dX3_takeOperator_31 : decode cX3_takeOperator 31 = .ok (.iadd, 1) := by decide +kernel
theorem dX3_takeOperator_32 : decode cX3_takeOperator 32 = .ok (.putfield 35, 3) := by decide +kernel
theorem dX3_takeOperator_35 : decode cX3_takeOperator 35 = .ok (.iload_n 1, 1) := by decide +kernel
theorem dX3_takeOperator_36 : decode cX3_takeOperator 36 = .ok (.ireturn, 1) := by decide +kernel
theorem dX3_takeTerm_0 : decode cX3_takeTerm 0 = .ok (.aload_n 0, 1) := by decide +kernel
theorem dX3_takeTerm_1 : decode cX3_takeTerm 1 = .ok (.invokevirtual 38, 3) := by decide +kernel
theorem dX3_takeTerm_4 : decode cX3_takeTerm 4 = .ok (.istore_n 1, 1) := by decide +kernel
theorem dX3_takeTerm_5 : decode cX3_takeTerm 5 = .ok (.iload_n 1, 1) := by decide +kernel
theorem dX3_takeTerm_6 : decode cX3_takeTerm 6 = .ok (.bipush 97, 2) := by decide +kernel
theorem dX3_takeTerm_8 : decode cX3_takeTerm 8 = .ok (.isub, 1) := by decide +kernel
theorem dX3_takeTerm_9 : decode cX3_takeTerm 9 = .ok (.invokestatic 108, 3) := by decide +kernel
theorem dX3_takeTerm_12 : decode cX3_takeTerm 12 = .ok (.ifCond .eq 22, 3) := by decide +kernel
theorem dX3_takeTerm_15 : decode cX3_takeTerm 15 = .ok (.aload_n 0, 1) := by decide +kernel
theorem dX3_takeTerm_16 : decode cX3_takeTerm 16 = .ok (.dup, 1) := by decide +kernel
theorem dX3_takeTerm_17 : decode cX3_takeTerm 17 = .ok (.getfield 35, 3) := by decide +kernel
theorem dX3_takeTerm_20 : decode cX3_takeTerm 20 = .ok (.iconst 1, 1) := by decide +kernel
theorem dX3_takeTerm_21 : decode cX3_takeTerm 21 = .ok (.iadd, 1) := by decide +kernel
theorem dX3_takeTerm_22 : decode cX3_takeTerm 22 = .ok (.putfield 35, 3) := by decide +kernel
theorem dX3_takeTerm_25 : decode cX3_takeTerm 25 = .ok (.sipush 1000, 3) := by decide +kernel
theorem dX3_takeTerm_28 : decode cX3_takeTerm 28 = .ok (.iload_n 1, 1) := by decide +kernel
theorem dX3_takeTerm_29 : decode cX3_takeTerm 29 = .ok (.iadd, 1) := by decide +kernel
theorem dX3_takeTerm_30 : decode cX3_takeTerm 30 = .ok (.bipush 97, 2) := by decide +kernel
theorem dX3_takeTerm_32 : decode cX3_takeTerm 32 = .ok (.isub, 1) := by decide +kernel
theorem dX3_takeTerm_33 : decode cX3_takeTerm 33 = .ok (.ireturn, 1) := by decide +kernel
theorem dX3_takeTerm_34 : decode cX3_takeTerm 34 = .ok (.iload_n 1, 1) := by decide +kernel
theorem dX3_takeTerm_35 : decode cX3_takeTerm 35 = .ok (.invokestatic 111, 3) := by decide +kernel
theorem dX3_takeTerm_38 : decode cX3_takeTerm 38 = .ok (.ifCond .eq 10, 3) := by decide +kernel
theorem dX3_takeTerm_41 : decode cX3_takeTerm 41 = .ok (.aload_n 0, 1) := by decide +kernel
theorem dX3_takeTerm_42 : decode cX3_takeTerm 42 = .ok (.invokevirtual 114, 3) := by decide +kernel
theorem dX3_takeTerm_45 : decode cX3_takeTerm 45 = .ok (.goto 4, 3) := by decide +kernel
theorem dX3_takeTerm_48 : decode cX3_takeTerm 48 = .ok (.iconst (-1), 1) := by decide +kernel
theorem dX3_takeTerm_49 : decode cX3_takeTerm 49 = .ok (.ireturn, 1) := by decide +kernel
theorem dX3_takeNumber_0 : decode cX3_takeNumber 0 = .ok (.aload_n 0, 1) := by decide +kernel
theorem dX3_takeNumber_1 : decode cX3_takeNumber 1 = .ok (.getfield 18, 3) := by decide +kernel
theorem dX3_takeNumber_4 : decode cX3_takeNumber 4 = .ok (.aload_n 0, 1) := by decide +kernel
theorem dX3_takeNumber_5 : decode cX3_takeNumber 5 = .ok (.getfield 35, 3) := by decide +kernel
theorem dX3_takeNumber_8 : decode cX3_takeNumber 8 = .ok (.invokevirtual 102, 3) := by decide +kernel
theorem dX3_takeNumber_11 : decode cX3_takeNumber 11 = .ok (.bipush 48, 2) := by decide +kernel
theorem dX3_takeNumber_13 : decode cX3_takeNumber 13 = .ok (.isub, 1) := by decide +kernel
theorem dX3_takeNumber_14 : decode cX3_takeNumber 14 = .ok (.istore_n 1, 1) := by decide +kernel
theorem dX3_takeNumber_15 : decode cX3_takeNumber 15 = .ok (.aload_n 0, 1) := by decide +kernel
theorem dX3_takeNumber_16 : decode cX3_takeNumber 16 = .ok (.dup, 1) := by decide +kernel
theorem dX3_takeNumber_17 : decode cX3_takeNumber 17 = .ok (.getfield 35, 3) := by decide +kernel
theorem dX3_takeNumber_20 : decode cX3_takeNumber 20 = .ok (.iconst 1, 1) := by decide +kernel
theorem dX3_takeNumber_21 : decode cX3_takeNumber 21 = .ok (.iadd, 1) := by decide +kernel
theorem dX3_takeNumber_22 : decode cX3_takeNumber 22 = .ok (.putfield 35, 3) := by decide +kernel
theorem dX3_takeNumber_25 : decode cX3_takeNumber 25 = .ok (.iconst 1, 1) := by decide +kernel
theorem dX3_takeNumber_26 : decode cX3_takeNumber 26 = .ok (.istore_n 2, 1) := by decide +kernel
theorem dX3_takeNumber_27 : decode cX3_takeNumber 27 = .ok (.iload_n 2, 1) := by decide +kernel
theorem dX3_takeNumber_28 : decode cX3_takeNumber 28 = .ok (.iconst 3, 1) := by decide +kernel
theorem dX3_takeNumber_29 : decode cX3_takeNumber 29 = .ok (.if_icmp .ge 60, 3) := by decide +kernel
theorem dX3_takeNumber_32 : decode cX3_takeNumber 32 = .ok (.iload_n 1, 1) := by decide +kernel
theorem dX3_takeNumber_33 : decode cX3_takeNumber 33 = .ok (.ifCond .le 56, 3) := by decide +kernel
theorem dX3_takeNumber_36 : decode cX3_takeNumber 36 = .ok (.aload_n 0, 1) := by decide +kernel
theorem dX3_takeNumber_37 : decode cX3_takeNumber 37 = .ok (.getfield 18, 3) := by decide +kernel
theorem dX3_takeNumber_40 : decode cX3_takeNumber 40 = .ok (.aload_n 0, 1) := by decide +kernel
theorem dX3_takeNumber_41 : decode cX3_takeNumber 41 = .ok (.getfield 35, 3) := by decide +kernel
theorem dX3_takeNumber_44 : decode cX3_takeNumber 44 = .ok (.invokevirtual 102, 3) := by decide +kernel
theorem dX3_takeNumber_47 : decode cX3_takeNumber 47 = .ok (.invokestatic 111, 3) := by decide +kernel
theorem dX3_takeNumber_50 : decode cX3_takeNumber 50 = .ok (.ifCond .eq 39, 3) := by decide +kernel
theorem dX3_takeNumber_53 : decode cX3_takeNumber 53 = .ok (.iload_n 1, 1) := by decide +kernel
theorem dX3_takeNumber_54 : decode cX3_takeNumber 54 = .ok (.bipush 10, 2) := by decide +kernel
theorem dX3_takeNumber_56 : decode cX3_takeNumber 56 = .ok (.imul, 1) := by decide +kernel
theorem dX3_takeNumber_57 : decode cX3_takeNumber 57 = .ok (.aload_n 0, 1) := by decide +kernel
theorem dX3_takeNumber_58 : decode cX3_takeNumber 58 = .ok (.getfield 18, 3) := by decide +kernel
theorem dX3_takeNumber_61 : decode cX3_takeNumber 61 = .ok (.aload_n 0, 1) := by decide +kernel
theorem dX3_takeNumber_62 : decode cX3_takeNumber 62 = .ok (.getfield 35, 3) := by decide +kernel
theorem dX3_takeNumber_65 : decode cX3_takeNumber 65 = .ok (.invokevirtual 102, 3) := by decide +kernel
theorem dX3_takeNumber_68 : decode cX3_takeNumber 68 = .ok (.iadd, 1) := by decide +kernel
theorem dX3_takeNumber_69 : decode cX3_takeNumber 69 = .ok (.bipush 48, 2) := by decide +kernel
theorem dX3_takeNumber_71 : decode cX3_takeNumber 71 = .ok (.isub, 1) := by decide +kernel
theorem dX3_takeNumber_72 : decode cX3_takeNumber 72 = .ok (.istore_n 1, 1) := by decide +kernel
theorem dX3_takeNumber_73 : decode cX3_takeNumber 73 = .ok (.aload_n 0, 1) := by decide +kernel
theorem dX3_takeNumber_74 : decode cX3_takeNumber 74 = .ok (.dup, 1) := by decide +kernel
theorem dX3_takeNumber_75 : decode cX3_takeNumber 75 = .ok (.getfield 35, 3) := by decide +kernel
theorem dX3_takeNumber_78 : decode cX3_takeNumber 78 = .ok (.iconst 1, 1) := by decide +kernel
theorem dX3_takeNumber_79 : decode cX3_takeNumber 79 = .ok (.iadd, 1) := by decide +kernel
theorem dX3_takeNumber_80 : decode cX3_takeNumber 80 = .ok (.putfield 35, 3) := by decide +kernel
theorem dX3_takeNumber_83 : decode cX3_takeNumber 83 = .ok (.iinc 2 1, 3) := by decide +kernel
theorem dX3_takeNumber_86 : decode cX3_takeNumber 86 = .ok (.goto (-59), 3) := by decide +kernel
theorem dX3_takeNumber_89 : decode cX3_takeNumber 89 = .ok (.iload_n 1, 1) := by decide +kernel
theorem dX3_takeNumber_90 : decode cX3_takeNumber 90 = .ok (.ireturn, 1) := by decide +kernel
theorem dX3_isDigit_0 : decode cX3_isDigit 0 = .ok (.iload_n 0, 1) := by decide +kernel
theorem dX3_isDigit_1 : decode cX3_isDigit 1 = .ok (.bipush 48, 2) := by decide +kernel
theorem dX3_isDigit_3 : decode cX3_isDigit 3 = .ok (.bipush 57, 2) := by decide +kernel
theorem dX3_isDigit_5 : decode cX3_isDigit 5 = .ok (.invokestatic 93, 3) := by decide +kernel
theorem dX3_isDigit_8 : decode cX3_isDigit 8 = .ok (.ireturn, 1) := by decide +kernel
theorem dX4_init_0 : decode cX4_init 0 = .ok (.aload_n 0, 1) := by decide +kernel
theorem dX4_init_1 : decode cX4_init 1 = .ok (.invokespecial 3, 3) := by decide +kernel
theorem dX4_init_4 : decode cX4_init 4 = .ok (.aload_n 0, 1) := by decide +kernel
theorem dX4_init_5 : decode cX4_init 5 = .ok (.new 9, 3) := by decide +kernel
theorem dX4_init_8 : decode cX4_init 8 = .ok (.dup, 1) := by decide +kernel
theorem dX4_init_9 : decode cX4_init 9 = .ok (.invokespecial 11, 3) := by decide +kernel
theorem dX4_init_12 : decode cX4_init 12 = .ok (.putfield 12, 3) := by decide +kernel
theorem dX4_init_15 : decode cX4_init 15 = .ok (.aload_n 0, 1) := by decide +kernel
theorem dX4_init_16 : decode cX4_init 16 = .ok (.new 9, 3) := by decide +kernel
theorem dX4_init_19 : decode cX4_init 19 = .ok (.dup, 1) := by decide +kernel
theorem dX4_init_20 : decode cX4_init 20 = .ok (.invokespecial 11, 3) := by decide +kernel
theorem dX4_init_23 : decode cX4_init 23 = .ok (.putfield 18, 3) := by decide +kernel
theorem dX4_init_26 : decode cX4_init 26 = .ok (.return_, 1) := by decide +kernel
theorem dX4_follow_0 : decode cX4_follow 0 = .ok (.aload_n 0, 1) := by decide +kernel
theorem dX4_follow_1 : decode cX4_follow 1 = .ok (.getfield 12, 3) := by decide +kernel
theorem dX4_follow_4 : decode cX4_follow 4 = .ok (.aload_n 1, 1) := by decide +kernel
theorem dX4_follow_5 : decode cX4_follow 5 = .ok (.iload_n 3, 1) := by decide +kernel
theorem dX4_follow_6 : decode cX4_follow 6 = .ok (.iload 4, 2) := by decide +kernel
theorem dX4_follow_8 : decode cX4_follow 8 = .ok (.invokevirtual 21, 3) := by decide +kernel
theorem dX4_follow_11 : decode cX4_follow 11 = .ok (.aload_n 0, 1) := by decide +kernel
theorem dX4_follow_12 : decode cX4_follow 12 = .ok (.getfield 18, 3) := by decide +kernel
theorem dX4_follow_15 : decode cX4_follow 15 = .ok (.aload_n 2, 1) := by decide +kernel
theorem dX4_follow_16 : decode cX4_follow 16 = .ok (.iload_n 3, 1) := by decide +kernel
theorem dX4_follow_17 : decode cX4_follow 17 = .ok (.iload 4, 2) := by decide +kernel
theorem dX4_follow_19 : decode cX4_follow 19 = .ok (.invokevirtual 21, 3) := by decide +kernel
theorem dX4_follow_22 : decode cX4_follow 22 = .ok (.return_, 1) := by decide +kernel
theorem dX4_pairsKept_0 : decode cX4_pairsKept 0 = .ok (.aload_n 0, 1) := by decide +kernel
theorem dX4_pairsKept_1 : decode cX4_pairsKept 1 = .ok (.getfield 12, 3) := by decide +kernel
theorem dX4_pairsKept_4 : decode cX4_pairsKept 4 = .ok (.invokevirtual 25, 3) := by decide +kernel
theorem dX4_pairsKept_7 : decode cX4_pairsKept 7 = .ok (.aload_n 0, 1) := by decide +kernel
theorem dX4_pairsKept_8 : decode cX4_pairsKept 8 = .ok (.getfield 18, 3) := by decide +kernel
theorem dX4_pairsKept_11 : decode cX4_pairsKept 11 = .ok (.invokevirtual 25, 3) := by decide +kernel
theorem dX4_pairsKept_14 : decode cX4_pairsKept 14 = .ok (.invokestatic 29, 3) := by decide +kernel
theorem dX4_pairsKept_17 : decode cX4_pairsKept 17 = .ok (.ireturn, 1) := by decide +kernel
theorem dX4_leadAt_0 : decode cX4_leadAt 0 = .ok (.aload_n 0, 1) := by decide +kernel
theorem dX4_leadAt_1 : decode cX4_leadAt 1 = .ok (.getfield 12, 3) := by decide +kernel
theorem dX4_leadAt_4 : decode cX4_leadAt 4 = .ok (.iload_n 1, 1) := by decide +kernel
theorem dX4_leadAt_5 : decode cX4_leadAt 5 = .ok (.invokevirtual 35, 3) := by decide +kernel
theorem dX4_leadAt_8 : decode cX4_leadAt 8 = .ok (.aload_n 0, 1) := by decide +kernel
theorem dX4_leadAt_9 : decode cX4_leadAt 9 = .ok (.getfield 18, 3) := by decide +kernel
theorem dX4_leadAt_12 : decode cX4_leadAt 12 = .ok (.iload_n 1, 1) := by decide +kernel
theorem dX4_leadAt_13 : decode cX4_leadAt 13 = .ok (.invokevirtual 35, 3) := by decide +kernel
theorem dX4_leadAt_16 : decode cX4_leadAt 16 = .ok (.isub, 1) := by decide +kernel
theorem dX4_leadAt_17 : decode cX4_leadAt 17 = .ok (.ireturn, 1) := by decide +kernel
theorem dX4_greatestLead_0 : decode cX4_greatestLead 0 = .ok (.sipush (-10009), 3) := by decide +kernel
theorem dX4_greatestLead_3 : decode cX4_greatestLead 3 = .ok (.istore_n 1, 1) := by decide +kernel
theorem dX4_greatestLead_4 : decode cX4_greatestLead 4 = .ok (.aload_n 0, 1) := by decide +kernel
theorem dX4_greatestLead_5 : decode cX4_greatestLead 5 = .ok (.invokevirtual 39, 3) := by decide +kernel
theorem dX4_greatestLead_8 : decode cX4_greatestLead 8 = .ok (.istore_n 2, 1) := by decide +kernel
theorem dX4_greatestLead_9 : decode cX4_greatestLead 9 = .ok (.iconst 0, 1) := by decide +kernel
theorem dX4_greatestLead_10 : decode cX4_greatestLead 10 = .ok (.istore_n 3, 1) := by decide +kernel
theorem dX4_greatestLead_11 : decode cX4_greatestLead 11 = .ok (.iload_n 3, 1) := by decide +kernel
theorem dX4_greatestLead_12 : decode cX4_greatestLead 12 = .ok (.iload_n 2, 1) := by decide +kernel
theorem dX4_greatestLead_13 : decode cX4_greatestLead 13 = .ok (.if_icmp .ge 22, 3) := by decide +kernel
theorem dX4_greatestLead_16 : decode cX4_greatestLead 16 = .ok (.iload_n 1, 1) := by decide +kernel
theorem dX4_greatestLead_17 : decode cX4_greatestLead 17 = .ok (.aload_n 0, 1) := by decide +kernel
theorem dX4_greatestLead_18 : decode cX4_greatestLead 18 = .ok (.iload_n 3, 1) := by decide +kernel
theorem dX4_greatestLead_19 : decode cX4_greatestLead 19 = .ok (.invokevirtual 42, 3) := by decide +kernel
theorem dX4_greatestLead_22 : decode cX4_greatestLead 22 = .ok (.invokestatic 45, 3) := by decide +kernel
theorem dX4_greatestLead_25 : decode cX4_greatestLead 25 = .ok (.invokestatic 48, 3) := by decide +kernel
theorem dX4_greatestLead_28 : decode cX4_greatestLead 28 = .ok (.istore_n 1, 1) := by decide +kernel
theorem dX4_greatestLead_29 : decode cX4_greatestLead 29 = .ok (.iinc 3 1, 3) := by decide +kernel
theorem dX4_greatestLead_32 : decode cX4_greatestLead 32 = .ok (.goto (-21), 3) := by decide +kernel
theorem dX4_greatestLead_35 : decode cX4_greatestLead 35 = .ok (.iload_n 1, 1) := by decide +kernel
theorem dX4_greatestLead_36 : decode cX4_greatestLead 36 = .ok (.ireturn, 1) := by decide +kernel
theorem dX4_lastLead_0 : decode cX4_lastLead 0 = .ok (.aload_n 0, 1) := by decide +kernel
theorem dX4_lastLead_1 : decode cX4_lastLead 1 = .ok (.invokevirtual 39, 3) := by decide +kernel
theorem dX4_lastLead_4 : decode cX4_lastLead 4 = .ok (.istore_n 1, 1) := by decide +kernel
theorem dX4_lastLead_5 : decode cX4_lastLead 5 = .ok (.iload_n 1, 1) := by decide +kernel
theorem dX4_lastLead_6 : decode cX4_lastLead 6 = .ok (.ifCond .ne 9, 3) := by decide +kernel
theorem dX4_lastLead_9 : decode cX4_lastLead 9 = .ok (.sipush (-10009), 3) := by decide +kernel
theorem dX4_lastLead_12 : decode cX4_lastLead 12 = .ok (.goto 10, 3) := by decide +kernel
theorem dX4_lastLead_15 : decode cX4_lastLead 15 = .ok (.aload_n 0, 1) := by decide +kernel
theorem dX4_lastLead_16 : decode cX4_lastLead 16 = .ok (.iload_n 1, 1) := by decide +kernel
theorem dX4_lastLead_17 : decode cX4_lastLead 17 = .ok (.iconst 1, 1) := by decide +kernel
theorem dX4_lastLead_18 : decode cX4_lastLead 18 = .ok (.isub, 1) := by decide +kernel
theorem dX4_lastLead_19 : decode cX4_lastLead 19 = .ok (.invokevirtual 42, 3) := by decide +kernel
theorem dX4_lastLead_22 : decode cX4_lastLead 22 = .ok (.ireturn, 1) := by decide +kernel
theorem dX4_evenPairs_0 : decode cX4_evenPairs 0 = .ok (.iconst 0, 1) := by decide +kernel
theorem dX4_evenPairs_1 : decode cX4_evenPairs 1 = .ok (.istore_n 1, 1) := by decide +kernel
theorem dX4_evenPairs_2 : decode cX4_evenPairs 2 = .ok (.aload_n 0, 1) := by decide +kernel
theorem dX4_evenPairs_3 : decode cX4_evenPairs 3 = .ok (.invokevirtual 39, 3) := by decide +kernel
theorem dX4_evenPairs_6 : decode cX4_evenPairs 6 = .ok (.istore_n 2, 1) := by decide +kernel
theorem dX4_evenPairs_7 : decode cX4_evenPairs 7 = .ok (.iconst 0, 1) := by decide +kernel
theorem dX4_evenPairs_8 : decode cX4_evenPairs 8 = .ok (.istore_n 3, 1) := by decide +kernel
theorem dX4_evenPairs_9 : decode cX4_evenPairs 9 = .ok (.iload_n 3, 1) := by decide +kernel
theorem dX4_evenPairs_10 : decode cX4_evenPairs 10 = .ok (.iload_n 2, 1) := by decide +kernel
theorem dX4_evenPairs_11 : decode cX4_evenPairs 11 = .ok (.if_icmp .ge 20, 3) := by decide +kernel
theorem dX4_evenPairs_14 : decode cX4_evenPairs 14 = .ok (.aload_n 0, 1) := by decide +kernel
theorem dX4_evenPairs_15 : decode cX4_evenPairs 15 = .ok (.iload_n 3, 1) := by decide +kernel
theorem dX4_evenPairs_16 : decode cX4_evenPairs 16 = .ok (.invokevirtual 51, 3) := by decide +kernel
theorem dX4_evenPairs_19 : decode cX4_evenPairs 19 = .ok (.ifCond .eq 6, 3) := by decide +kernel
theorem dX4_evenPairs_22 : decode cX4_evenPairs 22 = .ok (.iinc 1 1, 3) := by decide +kernel
theorem dX4_evenPairs_25 : decode cX4_evenPairs 25 = .ok (.iinc 3 1, 3) := by decide +kernel
theorem dX4_evenPairs_28 : decode cX4_evenPairs 28 = .ok (.goto (-19), 3) := by decide +kernel
theorem dX4_evenPairs_31 : decode cX4_evenPairs 31 = .ok (.iload_n 1, 1) := by decide +kernel
theorem dX4_evenPairs_32 : decode cX4_evenPairs 32 = .ok (.ireturn, 1) := by decide +kernel
theorem dX4_isEven_0 : decode cX4_isEven 0 = .ok (.iconst 0, 1) := by decide +kernel
