theorem dX8_cell_37 : decode cX8_cell 37 = .ok (.invokevirtual 174, 3) := by decide +kernel
theorem dX8_cell_40 : decode cX8_cell 40 = .ok (.iload 4, 2) := by decide +kernel
theorem dX8_cell_42 : decode cX8_cell 42 = .ok (.iconst (-1), 1) := by decide +kernel
theorem dX8_cell_43 : decode cX8_cell 43 = .ok (.if_icmp .ne 16, 3) := by decide +kernel
theorem dX8_cell_46 : decode cX8_cell 46 = .ok (.aload_n 0, 1) := by decide +kernel
theorem dX8_cell_47 : decode cX8_cell 47 = .ok (.getfield 28, 3) := by decide +kernel
theorem dX8_cell_50 : decode cX8_cell 50 = .ok (.bipush 6, 2) := by decide +kernel
theorem dX8_cell_52 : decode cX8_cell 52 = .ok (.iload_n 1, 1) := by decide +kernel
theorem dX8_cell_53 : decode cX8_cell 53 = .ok (.imul, 1) := by decide +kernel
theorem dX8_cell_54 : decode cX8_cell 54 = .ok (.iload 5, 2) := by decide +kernel
theorem dX8_cell_56 : decode cX8_cell 56 = .ok (.iadd, 1) := by decide +kernel
theorem dX8_cell_57 : decode cX8_cell 57 = .ok (.iaload, 1) := by decide +kernel
theorem dX8_cell_58 : decode cX8_cell 58 = .ok (.ireturn, 1) := by decide +kernel
theorem dX8_cell_59 : decode cX8_cell 59 = .ok (.iload 4, 2) := by decide +kernel
theorem dX8_cell_61 : decode cX8_cell 61 = .ok (.bipush 40, 2) := by decide +kernel
theorem dX8_cell_63 : decode cX8_cell 63 = .ok (.aload_n 0, 1) := by decide +kernel
theorem dX8_cell_64 : decode cX8_cell 64 = .ok (.getfield 40, 3) := by decide +kernel
theorem dX8_cell_67 : decode cX8_cell 67 = .ok (.bipush 6, 2) := by decide +kernel
theorem dX8_cell_69 : decode cX8_cell 69 = .ok (.iload_n 1, 1) := by decide +kernel
theorem dX8_cell_70 : decode cX8_cell 70 = .ok (.imul, 1) := by decide +kernel
theorem dX8_cell_71 : decode cX8_cell 71 = .ok (.iconst 3, 1) := by decide +kernel
theorem dX8_cell_72 : decode cX8_cell 72 = .ok (.iadd, 1) := by decide +kernel
theorem dX8_cell_73 : decode cX8_cell 73 = .ok (.iaload, 1) := by decide +kernel
theorem dX8_cell_74 : decode cX8_cell 74 = .ok (.invokestatic 177, 3) := by decide +kernel
theorem dX8_cell_77 : decode cX8_cell 77 = .ok (.if_icmp .ge 25, 3) := by decide +kernel
theorem dX8_cell_80 : decode cX8_cell 80 = .ok (.aload_n 0, 1) := by decide +kernel
theorem dX8_cell_81 : decode cX8_cell 81 = .ok (.getfield 37, 3) := by decide +kernel
theorem dX8_cell_84 : decode cX8_cell 84 = .ok (.sipush 240, 3) := by decide +kernel
theorem dX8_cell_87 : decode cX8_cell 87 = .ok (.iload_n 1, 1) := by decide +kernel
theorem dX8_cell_88 : decode cX8_cell 88 = .ok (.imul, 1) := by decide +kernel
theorem dX8_cell_89 : decode cX8_cell 89 = .ok (.bipush 6, 2) := by decide +kernel
theorem dX8_cell_91 : decode cX8_cell 91 = .ok (.iload 4, 2) := by decide +kernel
theorem dX8_cell_93 : decode cX8_cell 93 = .ok (.imul, 1) := by decide +kernel
theorem dX8_cell_94 : decode cX8_cell 94 = .ok (.iadd, 1) := by decide +kernel
theorem dX8_cell_95 : decode cX8_cell 95 = .ok (.iload 5, 2) := by decide +kernel
theorem dX8_cell_97 : decode cX8_cell 97 = .ok (.iadd, 1) := by decide +kernel
theorem dX8_cell_98 : decode cX8_cell 98 = .ok (.iaload, 1) := by decide +kernel
theorem dX8_cell_99 : decode cX8_cell 99 = .ok (.goto 6, 3) := by decide +kernel
theorem dX8_cell_102 : decode cX8_cell 102 = .ok (.sipush (-10009), 3) := by decide +kernel
theorem dX8_cell_105 : decode cX8_cell 105 = .ok (.ireturn, 1) := by decide +kernel
theorem dX8_runsBoth_0 : decode cX8_runsBoth 0 = .ok (.aload_n 0, 1) := by decide +kernel
theorem dX8_runsBoth_1 : decode cX8_runsBoth 1 = .ok (.iconst 0, 1) := by decide +kernel
theorem dX8_runsBoth_2 : decode cX8_runsBoth 2 = .ok (.iload_n 1, 1) := by decide +kernel
theorem dX8_runsBoth_3 : decode cX8_runsBoth 3 = .ok (.iload_n 2, 1) := by decide +kernel
theorem dX8_runsBoth_4 : decode cX8_runsBoth 4 = .ok (.invokevirtual 174, 3) := by decide +kernel
theorem dX8_runsBoth_7 : decode cX8_runsBoth 7 = .ok (.aload_n 0, 1) := by decide +kernel
theorem dX8_runsBoth_8 : decode cX8_runsBoth 8 = .ok (.iconst 1, 1) := by decide +kernel
theorem dX8_runsBoth_9 : decode cX8_runsBoth 9 = .ok (.iload_n 1, 1) := by decide +kernel
theorem dX8_runsBoth_10 : decode cX8_runsBoth 10 = .ok (.iload_n 2, 1) := by decide +kernel
theorem dX8_runsBoth_11 : decode cX8_runsBoth 11 = .ok (.invokevirtual 174, 3) := by decide +kernel
theorem dX8_runsBoth_14 : decode cX8_runsBoth 14 = .ok (.return_, 1) := by decide +kernel
theorem dX8_pairMany_0 : decode cX8_pairMany 0 = .ok (.bipush 40, 2) := by decide +kernel
theorem dX8_pairMany_2 : decode cX8_pairMany 2 = .ok (.aload_n 0, 1) := by decide +kernel
theorem dX8_pairMany_3 : decode cX8_pairMany 3 = .ok (.getfield 40, 3) := by decide +kernel
theorem dX8_pairMany_6 : decode cX8_pairMany 6 = .ok (.iconst 3, 1) := by decide +kernel
theorem dX8_pairMany_7 : decode cX8_pairMany 7 = .ok (.iaload, 1) := by decide +kernel
theorem dX8_pairMany_8 : decode cX8_pairMany 8 = .ok (.aload_n 0, 1) := by decide +kernel
theorem dX8_pairMany_9 : decode cX8_pairMany 9 = .ok (.getfield 40, 3) := by decide +kernel
theorem dX8_pairMany_12 : decode cX8_pairMany 12 = .ok (.bipush 9, 2) := by decide +kernel
theorem dX8_pairMany_14 : decode cX8_pairMany 14 = .ok (.iaload, 1) := by decide +kernel
theorem dX8_pairMany_15 : decode cX8_pairMany 15 = .ok (.invokestatic 177, 3) := by decide +kernel
theorem dX8_pairMany_18 : decode cX8_pairMany 18 = .ok (.invokestatic 177, 3) := by decide +kernel
theorem dX8_pairMany_21 : decode cX8_pairMany 21 = .ok (.ireturn, 1) := by decide +kernel
theorem dX8_leadOf_0 : decode cX8_leadOf 0 = .ok (.aload_n 0, 1) := by decide +kernel
theorem dX8_leadOf_1 : decode cX8_leadOf 1 = .ok (.getfield 34, 3) := by decide +kernel
theorem dX8_leadOf_4 : decode cX8_leadOf 4 = .ok (.iload_n 1, 1) := by decide +kernel
theorem dX8_leadOf_5 : decode cX8_leadOf 5 = .ok (.iaload, 1) := by decide +kernel
theorem dX8_leadOf_6 : decode cX8_leadOf 6 = .ok (.aload_n 0, 1) := by decide +kernel
theorem dX8_leadOf_7 : decode cX8_leadOf 7 = .ok (.getfield 34, 3) := by decide +kernel
theorem dX8_leadOf_10 : decode cX8_leadOf 10 = .ok (.bipush 40, 2) := by decide +kernel
theorem dX8_leadOf_12 : decode cX8_leadOf 12 = .ok (.iload_n 1, 1) := by decide +kernel
theorem dX8_leadOf_13 : decode cX8_leadOf 13 = .ok (.iadd, 1) := by decide +kernel
theorem dX8_leadOf_14 : decode cX8_leadOf 14 = .ok (.iaload, 1) := by decide +kernel
theorem dX8_leadOf_15 : decode cX8_leadOf 15 = .ok (.isub, 1) := by decide +kernel
theorem dX8_leadOf_16 : decode cX8_leadOf 16 = .ok (.ireturn, 1) := by decide +kernel
theorem dX8_greatestLead_0 : decode cX8_greatestLead 0 = .ok (.iconst 0, 1) := by decide +kernel
theorem dX8_greatestLead_1 : decode cX8_greatestLead 1 = .ok (.istore_n 1, 1) := by decide +kernel
theorem dX8_greatestLead_2 : decode cX8_greatestLead 2 = .ok (.iconst 0, 1) := by decide +kernel
theorem dX8_greatestLead_3 : decode cX8_greatestLead 3 = .ok (.istore_n 2, 1) := by decide +kernel
theorem dX8_greatestLead_4 : decode cX8_greatestLead 4 = .ok (.iload_n 2, 1) := by decide +kernel
theorem dX8_greatestLead_5 : decode cX8_greatestLead 5 = .ok (.aload_n 0, 1) := by decide +kernel
theorem dX8_greatestLead_6 : decode cX8_greatestLead 6 = .ok (.invokevirtual 183, 3) := by decide +kernel
theorem dX8_greatestLead_9 : decode cX8_greatestLead 9 = .ok (.if_icmp .ge 43, 3) := by decide +kernel
theorem dX8_greatestLead_12 : decode cX8_greatestLead 12 = .ok (.aload_n 0, 1) := by decide +kernel
theorem dX8_greatestLead_13 : decode cX8_greatestLead 13 = .ok (.iload_n 2, 1) := by decide +kernel
theorem dX8_greatestLead_14 : decode cX8_greatestLead 14 = .ok (.invokevirtual 186, 3) := by decide +kernel
theorem dX8_greatestLead_17 : decode cX8_greatestLead 17 = .ok (.ifCond .ge 12, 3) := by decide +kernel
theorem dX8_greatestLead_20 : decode cX8_greatestLead 20 = .ok (.aload_n 0, 1) := by decide +kernel
theorem dX8_greatestLead_21 : decode cX8_greatestLead 21 = .ok (.iload_n 2, 1) := by decide +kernel
theorem dX8_greatestLead_22 : decode cX8_greatestLead 22 = .ok (.invokevirtual 186, 3) := by decide +kernel
theorem dX8_greatestLead_25 : decode cX8_greatestLead 25 = .ok (.ineg, 1) := by decide +kernel
theorem dX8_greatestLead_26 : decode cX8_greatestLead 26 = .ok (.goto 8, 3) := by decide +kernel
theorem dX8_greatestLead_29 : decode cX8_greatestLead 29 = .ok (.aload_n 0, 1) := by decide +kernel
theorem dX8_greatestLead_30 : decode cX8_greatestLead 30 = .ok (.iload_n 2, 1) := by decide +kernel
theorem dX8_greatestLead_31 : decode cX8_greatestLead 31 = .ok (.invokevirtual 186, 3) := by decide +kernel
theorem dX8_greatestLead_34 : decode cX8_greatestLead 34 = .ok (.istore_n 3, 1) := by decide +kernel
theorem dX8_greatestLead_35 : decode cX8_greatestLead 35 = .ok (.iload_n 3, 1) := by decide +kernel
theorem dX8_greatestLead_36 : decode cX8_greatestLead 36 = .ok (.iload_n 1, 1) := by decide +kernel
theorem dX8_greatestLead_37 : decode cX8_greatestLead 37 = .ok (.if_icmp .le 7, 3) := by decide +kernel
theorem dX8_greatestLead_40 : decode cX8_greatestLead 40 = .ok (.iload_n 3, 1) := by decide +kernel
theorem dX8_greatestLead_41 : decode cX8_greatestLead 41 = .ok (.goto 4, 3) := by decide +kernel
theorem dX8_greatestLead_44 : decode cX8_greatestLead 44 = .ok (.iload_n 1, 1) := by decide +kernel
theorem dX8_greatestLead_45 : decode cX8_greatestLead 45 = .ok (.istore_n 1, 1) := by decide +kernel
theorem dX8_greatestLead_46 : decode cX8_greatestLead 46 = .ok (.iinc 2 1, 3) := by decide +kernel
theorem dX8_greatestLead_49 : decode cX8_greatestLead 49 = .ok (.goto (-45), 3) := by decide +kernel
theorem dX8_greatestLead_52 : decode cX8_greatestLead 52 = .ok (.iload_n 1, 1) := by decide +kernel
theorem dX8_greatestLead_53 : decode cX8_greatestLead 53 = .ok (.ireturn, 1) := by decide +kernel
theorem dX8_isEqual_0 : decode cX8_isEqual 0 = .ok (.aload_n 0, 1) := by decide +kernel
theorem dX8_isEqual_1 : decode cX8_isEqual 1 = .ok (.getfield 37, 3) := by decide +kernel
theorem dX8_isEqual_4 : decode cX8_isEqual 4 = .ok (.bipush 6, 2) := by decide +kernel
theorem dX8_isEqual_6 : decode cX8_isEqual 6 = .ok (.iload_n 1, 1) := by decide +kernel
theorem dX8_isEqual_7 : decode cX8_isEqual 7 = .ok (.imul, 1) := by decide +kernel
theorem dX8_isEqual_8 : decode cX8_isEqual 8 = .ok (.iload_n 2, 1) := by decide +kernel
theorem dX8_isEqual_9 : decode cX8_isEqual 9 = .ok (.iadd, 1) := by decide +kernel
theorem dX8_isEqual_10 : decode cX8_isEqual 10 = .ok (.iaload, 1) := by decide +kernel
theorem dX8_isEqual_11 : decode cX8_isEqual 11 = .ok (.aload_n 0, 1) := by decide +kernel
theorem dX8_isEqual_12 : decode cX8_isEqual 12 = .ok (.getfield 37, 3) := by decide +kernel
theorem dX8_isEqual_15 : decode cX8_isEqual 15 = .ok (.sipush 240, 3) := by decide +kernel
theorem dX8_isEqual_18 : decode cX8_isEqual 18 = .ok (.bipush 6, 2) := by decide +kernel
theorem dX8_isEqual_20 : decode cX8_isEqual 20 = .ok (.iload_n 1, 1) := by decide +kernel
theorem dX8_isEqual_21 : decode cX8_isEqual 21 = .ok (.imul, 1) := by decide +kernel
theorem dX8_isEqual_22 : decode cX8_isEqual 22 = .ok (.iadd, 1) := by decide +kernel
theorem dX8_isEqual_23 : decode cX8_isEqual 23 = .ok (.iload_n 3, 1) := by decide +kernel
theorem dX8_isEqual_24 : decode cX8_isEqual 24 = .ok (.iadd, 1) := by decide +kernel
theorem dX8_isEqual_25 : decode cX8_isEqual 25 = .ok (.iaload, 1) := by decide +kernel
theorem dX8_isEqual_26 : decode cX8_isEqual 26 = .ok (.if_icmp .ne 7, 3) := by decide +kernel
theorem dX8_isEqual_29 : decode cX8_isEqual 29 = .ok (.iconst 1, 1) := by decide +kernel
theorem dX8_isEqual_30 : decode cX8_isEqual 30 = .ok (.goto 4, 3) := by decide +kernel
theorem dX8_isEqual_33 : decode cX8_isEqual 33 = .ok (.iconst 0, 1) := by decide +kernel
theorem dX8_isEqual_34 : decode cX8_isEqual 34 = .ok (.ireturn, 1) := by decide +kernel
theorem dX8_allEqual_0 : decode cX8_allEqual 0 = .ok (.iconst 0, 1) := by decide +kernel
theorem dX8_allEqual_1 : decode cX8_allEqual 1 = .ok (.istore_n 1, 1) := by decide +kernel
theorem dX8_allEqual_2 : decode cX8_allEqual 2 = .ok (.iconst 0, 1) := by decide +kernel
theorem dX8_allEqual_3 : decode cX8_allEqual 3 = .ok (.istore_n 2, 1) := by decide +kernel
theorem dX8_allEqual_4 : decode cX8_allEqual 4 = .ok (.iload_n 2, 1) := by decide +kernel
theorem dX8_allEqual_5 : decode cX8_allEqual 5 = .ok (.aload_n 0, 1) := by decide +kernel
theorem dX8_allEqual_6 : decode cX8_allEqual 6 = .ok (.invokevirtual 183, 3) := by decide +kernel
theorem dX8_allEqual_9 : decode cX8_allEqual 9 = .ok (.if_icmp .ge 61, 3) := by decide +kernel
theorem dX8_allEqual_12 : decode cX8_allEqual 12 = .ok (.iconst 1, 1) := by decide +kernel
theorem dX8_allEqual_13 : decode cX8_allEqual 13 = .ok (.istore_n 3, 1) := by decide +kernel
theorem dX8_allEqual_14 : decode cX8_allEqual 14 = .ok (.iconst 0, 1) := by decide +kernel
theorem dX8_allEqual_15 : decode cX8_allEqual 15 = .ok (.istore 4, 2) := by decide +kernel
theorem dX8_allEqual_17 : decode cX8_allEqual 17 = .ok (.iload 4, 2) := by decide +kernel
theorem dX8_allEqual_19 : decode cX8_allEqual 19 = .ok (.bipush 6, 2) := by decide +kernel
theorem dX8_allEqual_21 : decode cX8_allEqual 21 = .ok (.if_icmp .ge 31, 3) := by decide +kernel
theorem dX8_allEqual_24 : decode cX8_allEqual 24 = .ok (.iload_n 3, 1) := by decide +kernel
theorem dX8_allEqual_25 : decode cX8_allEqual 25 = .ok (.ifCond .eq 19, 3) := by decide +kernel
theorem dX8_allEqual_28 : decode cX8_allEqual 28 = .ok (.aload_n 0, 1) := by decide +kernel
theorem dX8_allEqual_29 : decode cX8_allEqual 29 = .ok (.iload_n 2, 1) := by decide +kernel
theorem dX8_allEqual_30 : decode cX8_allEqual 30 = .ok (.iload 4, 2) := by decide +kernel
theorem dX8_allEqual_32 : decode cX8_allEqual 32 = .ok (.iload 4, 2) := by decide +kernel
theorem dX8_allEqual_34 : decode cX8_allEqual 34 = .ok (.invokevirtual 189, 3) := by decide +kernel
theorem dX8_allEqual_37 : decode cX8_allEqual 37 = .ok (.ifCond .eq 7, 3) := by decide +kernel
theorem dX8_allEqual_40 : decode cX8_allEqual 40 = .ok (.iconst 1, 1) := by decide +kernel
theorem dX8_allEqual_41 : decode cX8_allEqual 41 = .ok (.goto 4, 3) := by decide +kernel
theorem dX8_allEqual_44 : decode cX8_allEqual 44 = .ok (.iconst 0, 1) := by decide +kernel
theorem dX8_allEqual_45 : decode cX8_allEqual 45 = .ok (.istore_n 3, 1) := by decide +kernel
theorem dX8_allEqual_46 : decode cX8_allEqual 46 = .ok (.iinc 4 1, 3) := by decide +kernel
theorem dX8_allEqual_49 : decode cX8_allEqual 49 = .ok (.goto (-32), 3) := by decide +kernel
theorem dX8_allEqual_52 : decode cX8_allEqual 52 = .ok (.iload_n 1, 1) := by decide +kernel
theorem dX8_allEqual_53 : decode cX8_allEqual 53 = .ok (.iload_n 3, 1) := by decide +kernel
theorem dX8_allEqual_54 : decode cX8_allEqual 54 = .ok (.ifCond .eq 7, 3) := by decide +kernel
theorem dX8_allEqual_57 : decode cX8_allEqual 57 = .ok (.iconst 1, 1) := by decide +kernel
theorem dX8_allEqual_58 : decode cX8_allEqual 58 = .ok (.goto 4, 3) := by decide +kernel
theorem dX8_allEqual_61 : decode cX8_allEqual 61 = .ok (.iconst 0, 1) := by decide +kernel
theorem dX8_allEqual_62 : decode cX8_allEqual 62 = .ok (.iadd, 1) := by decide +kernel
theorem dX8_allEqual_63 : decode cX8_allEqual 63 = .ok (.istore_n 1, 1) := by decide +kernel
theorem dX8_allEqual_64 : decode cX8_allEqual 64 = .ok (.iinc 2 1, 3) := by decide +kernel
theorem dX8_allEqual_67 : decode cX8_allEqual 67 = .ok (.goto (-63), 3) := by decide +kernel
theorem dX8_allEqual_70 : decode cX8_allEqual 70 = .ok (.iload_n 1, 1) := by decide +kernel
theorem dX8_allEqual_71 : decode cX8_allEqual 71 = .ok (.ireturn, 1) := by decide +kernel
theorem dX8_pairs_0 : decode cX8_pairs 0 = .ok (.iload_n 1, 1) := by decide +kernel
theorem dX8_pairs_1 : decode cX8_pairs 1 = .ok (.iload_n 2, 1) := by decide +kernel
theorem dX8_pairs_2 : decode cX8_pairs 2 = .ok (.invokestatic 171, 3) := by decide +kernel
theorem dX8_pairs_5 : decode cX8_pairs 5 = .ok (.ifCond .eq 12, 3) := by decide +kernel
theorem dX8_pairs_8 : decode cX8_pairs 8 = .ok (.iload_n 3, 1) := by decide +kernel
theorem dX8_pairs_9 : decode cX8_pairs 9 = .ok (.iconst 0, 1) := by decide +kernel
theorem dX8_pairs_10 : decode cX8_pairs 10 = .ok (.iconst 3, 1) := by decide +kernel
theorem dX8_pairs_11 : decode cX8_pairs 11 = .ok (.invokestatic 61, 3) := by decide +kernel
theorem dX8_pairs_14 : decode cX8_pairs 14 = .ok (.ifCond .ne 7, 3) := by decide +kernel
theorem dX8_pairs_17 : decode cX8_pairs 17 = .ok (.sipush (-10001), 3) := by decide +kernel
theorem dX8_pairs_20 : decode cX8_pairs 20 = .ok (.ireturn, 1) := by decide +kernel
theorem dX8_pairs_21 : decode cX8_pairs 21 = .ok (.aload_n 0, 1) := by decide +kernel
theorem dX8_pairs_22 : decode cX8_pairs 22 = .ok (.iload_n 1, 1) := by decide +kernel
theorem dX8_pairs_23 : decode cX8_pairs 23 = .ok (.iload_n 2, 1) := by decide +kernel
theorem dX8_pairs_24 : decode cX8_pairs 24 = .ok (.invokevirtual 192, 3) := by decide +kernel
theorem dX8_pairs_27 : decode cX8_pairs 27 = .ok (.aload_n 0, 1) := by decide +kernel
theorem dX8_pairs_28 : decode cX8_pairs 28 = .ok (.invokevirtual 183, 3) := by decide +kernel
theorem dX8_pairs_31 : decode cX8_pairs 31 = .ok (.istore 4, 2) := by decide +kernel
theorem dX8_pairs_33 : decode cX8_pairs 33 = .ok (.iload_n 3, 1) := by decide +kernel
theorem dX8_pairs_34 : decode cX8_pairs 34 = .ok (.ifCond .ne 6, 3) := by decide +kernel
theorem dX8_pairs_37 : decode cX8_pairs 37 = .ok (.iload 4, 2) := by decide +kernel
theorem dX8_pairs_39 : decode cX8_pairs 39 = .ok (.ireturn, 1) := by decide +kernel
theorem dX8_pairs_40 : decode cX8_pairs 40 = .ok (.iload_n 3, 1) := by decide +kernel
theorem dX8_pairs_41 : decode cX8_pairs 41 = .ok (.iconst 3, 1) := by decide +kernel
theorem dX8_pairs_42 : decode cX8_pairs 42 = .ok (.if_icmp .ne 8, 3) := by decide +kernel
theorem dX8_pairs_45 : decode cX8_pairs 45 = .ok (.aload_n 0, 1) := by decide +kernel
theorem dX8_pairs_46 : decode cX8_pairs 46 = .ok (.invokevirtual 195, 3) := by decide +kernel
theorem dX8_pairs_49 : decode cX8_pairs 49 = .ok (.ireturn, 1) := by decide +kernel
theorem dX8_pairs_50 : decode cX8_pairs 50 = .ok (.iload 4, 2) := by decide +kernel
theorem dX8_pairs_52 : decode cX8_pairs 52 = .ok (.ifCond .ne 9, 3) := by decide +kernel
theorem dX8_pairs_55 : decode cX8_pairs 55 = .ok (.sipush (-10009), 3) := by decide +kernel
theorem dX8_pairs_58 : decode cX8_pairs 58 = .ok (.goto 23, 3) := by decide +kernel
theorem dX8_pairs_61 : decode cX8_pairs 61 = .ok (.iload_n 3, 1) := by decide +kernel
theorem dX8_pairs_62 : decode cX8_pairs 62 = .ok (.iconst 1, 1) := by decide +kernel
theorem dX8_pairs_63 : decode cX8_pairs 63 = .ok (.if_icmp .ne 10, 3) := by decide +kernel
theorem dX8_pairs_66 : decode cX8_pairs 66 = .ok (.aload_n 0, 1) := by decide +kernel
theorem dX8_pairs_67 : decode cX8_pairs 67 = .ok (.invokevirtual 198, 3) := by decide +kernel
theorem dX8_pairs_70 : decode cX8_pairs 70 = .ok (.goto 11, 3) := by decide +kernel
theorem dX8_pairs_73 : decode cX8_pairs 73 = .ok (.aload_n 0, 1) := by decide +kernel
theorem dX8_pairs_74 : decode cX8_pairs 74 = .ok (.iload 4, 2) := by decide +kernel
theorem dX8_pairs_76 : decode cX8_pairs 76 = .ok (.iconst 1, 1) := by decide +kernel
theorem dX8_pairs_77 : decode cX8_pairs 77 = .ok (.isub, 1) := by decide +kernel
theorem dX8_pairs_78 : decode cX8_pairs 78 = .ok (.invokevirtual 186, 3) := by decide +kernel
theorem dX8_pairs_81 : decode cX8_pairs 81 = .ok (.ireturn, 1) := by decide +kernel
theorem dX8_equalTo_0 : decode cX8_equalTo 0 = .ok (.iconst 0, 1) := by decide +kernel
theorem dX8_equalTo_1 : decode cX8_equalTo 1 = .ok (.istore_n 2, 1) := by decide +kernel
theorem dX8_equalTo_2 : decode cX8_equalTo 2 = .ok (.iconst 0, 1) := by decide +kernel
theorem dX8_equalTo_3 : decode cX8_equalTo 3 = .ok (.istore_n 3, 1) := by decide +kernel
theorem dX8_equalTo_4 : decode cX8_equalTo 4 = .ok (.iload_n 3, 1) := by decide +kernel
theorem dX8_equalTo_5 : decode cX8_equalTo 5 = .ok (.bipush 6, 2) := by decide +kernel
theorem dX8_equalTo_7 : decode cX8_equalTo 7 = .ok (.if_icmp .ge 68, 3) := by decide +kernel
theorem dX8_equalTo_10 : decode cX8_equalTo 10 = .ok (.iconst 1, 1) := by decide +kernel
theorem dX8_equalTo_11 : decode cX8_equalTo 11 = .ok (.istore 4, 2) := by decide +kernel
theorem dX8_equalTo_13 : decode cX8_equalTo 13 = .ok (.iconst 0, 1) := by decide +kernel
theorem dX8_equalTo_14 : decode cX8_equalTo 14 = .ok (.istore 5, 2) := by decide +kernel
theorem dX8_equalTo_16 : decode cX8_equalTo 16 = .ok (.iload 5, 2) := by decide +kernel
theorem dX8_equalTo_18 : decode cX8_equalTo 18 = .ok (.aload_n 0, 1) := by decide +kernel
theorem dX8_equalTo_19 : decode cX8_equalTo 19 = .ok (.invokevirtual 183, 3) := by decide +kernel
theorem dX8_equalTo_22 : decode cX8_equalTo 22 = .ok (.if_icmp .ge 32, 3) := by decide +kernel
theorem dX8_equalTo_25 : decode cX8_equalTo 25 = .ok (.iload 4, 2) := by decide +kernel
theorem dX8_equalTo_27 : decode cX8_equalTo 27 = .ok (.ifCond .eq 18, 3) := by decide +kernel
theorem dX8_equalTo_30 : decode cX8_equalTo 30 = .ok (.aload_n 0, 1) := by decide +kernel
theorem dX8_equalTo_31 : decode cX8_equalTo 31 = .ok (.iload 5, 2) := by decide +kernel
theorem dX8_equalTo_33 : decode cX8_equalTo 33 = .ok (.iload_n 1, 1) := by decide +kernel
theorem dX8_equalTo_34 : decode cX8_equalTo 34 = .ok (.iload_n 3, 1) := by decide +kernel
theorem dX8_equalTo_35 : decode cX8_equalTo 35 = .ok (.invokevirtual 189, 3) := by decide +kernel
theorem dX8_equalTo_38 : decode cX8_equalTo 38 = .ok (.ifCond .eq 7, 3) := by decide +kernel
theorem dX8_equalTo_41 : decode cX8_equalTo 41 = .ok (.iconst 1, 1) := by decide +kernel
theorem dX8_equalTo_42 : decode cX8_equalTo 42 = .ok (.goto 4, 3) := by decide +kernel
theorem dX8_equalTo_45 : decode cX8_equalTo 45 = .ok (.iconst 0, 1) := by decide +kernel
theorem dX8_equalTo_46 : decode cX8_equalTo 46 = .ok (.istore 4, 2) := by decide +kernel
theorem dX8_equalTo_48 : decode cX8_equalTo 48 = .ok (.iinc 5 1, 3) := by decide +kernel
theorem dX8_equalTo_51 : decode cX8_equalTo 51 = .ok (.goto (-35), 3) := by decide +kernel
theorem dX8_equalTo_54 : decode cX8_equalTo 54 = .ok (.iload_n 2, 1) := by decide +kernel
theorem dX8_equalTo_55 : decode cX8_equalTo 55 = .ok (.iload 4, 2) := by decide +kernel
theorem dX8_equalTo_57 : decode cX8_equalTo 57 = .ok (.ifCond .eq 9, 3) := by decide +kernel
theorem dX8_equalTo_60 : decode cX8_equalTo 60 = .ok (.iconst 1, 1) := by decide +kernel
theorem dX8_equalTo_61 : decode cX8_equalTo 61 = .ok (.iload_n 3, 1) := by decide +kernel
theorem dX8_equalTo_62 : decode cX8_equalTo 62 = .ok (.ishl, 1) := by decide +kernel
theorem dX8_equalTo_63 : decode cX8_equalTo 63 = .ok (.goto 4, 3) := by decide +kernel
theorem dX8_equalTo_66 : decode cX8_equalTo 66 = .ok (.iconst 0, 1) := by decide +kernel
theorem dX8_equalTo_67 : decode cX8_equalTo 67 = .ok (.ior, 1) := by decide +kernel
theorem dX8_equalTo_68 : decode cX8_equalTo 68 = .ok (.istore_n 2, 1) := by decide +kernel
theorem dX8_equalTo_69 : decode cX8_equalTo 69 = .ok (.iinc 3 1, 3) := by decide +kernel
theorem dX8_equalTo_72 : decode cX8_equalTo 72 = .ok (.goto (-68), 3) := by decide +kernel
theorem dX8_equalTo_75 : decode cX8_equalTo 75 = .ok (.iload_n 2, 1) := by decide +kernel
theorem dX8_equalTo_76 : decode cX8_equalTo 76 = .ok (.ireturn, 1) := by decide +kernel
theorem dX8_equal_0 : decode cX8_equal 0 = .ok (.iload_n 1, 1) := by decide +kernel
theorem dX8_equal_1 : decode cX8_equal 1 = .ok (.iload_n 2, 1) := by decide +kernel
theorem dX8_equal_2 : decode cX8_equal 2 = .ok (.invokestatic 171, 3) := by decide +kernel
theorem dX8_equal_5 : decode cX8_equal 5 = .ok (.ifCond .eq 10, 3) := by decide +kernel
theorem dX8_equal_8 : decode cX8_equal 8 = .ok (.iload_n 3, 1) := by decide +kernel
theorem dX8_equal_9 : decode cX8_equal 9 = .ok (.invokestatic 180, 3) := by decide +kernel
theorem dX8_equal_12 : decode cX8_equal 12 = .ok (.ifCond .ne 7, 3) := by decide +kernel
theorem dX8_equal_15 : decode cX8_equal 15 = .ok (.sipush (-10001), 3) := by decide +kernel
theorem dX8_equal_18 : decode cX8_equal 18 = .ok (.ireturn, 1) := by decide +kernel
theorem dX8_equal_19 : decode cX8_equal 19 = .ok (.aload_n 0, 1) := by decide +kernel
theorem dX8_equal_20 : decode cX8_equal 20 = .ok (.iload_n 1, 1) := by decide +kernel
theorem dX8_equal_21 : decode cX8_equal 21 = .ok (.iload_n 2, 1) := by decide +kernel
theorem dX8_equal_22 : decode cX8_equal 22 = .ok (.invokevirtual 192, 3) := by decide +kernel
theorem dX8_equal_25 : decode cX8_equal 25 = .ok (.aload_n 0, 1) := by decide +kernel
theorem dX8_equal_26 : decode cX8_equal 26 = .ok (.iload_n 3, 1) := by decide +kernel
theorem dX8_equal_27 : decode cX8_equal 27 = .ok (.invokevirtual 201, 3) := by decide +kernel
theorem dX8_equal_30 : decode cX8_equal 30 = .ok (.ireturn, 1) := by decide +kernel
theorem dX8_firstDifference_0 : decode cX8_firstDifference 0 = .ok (.bipush 40, 2) := by decide +kernel
theorem dX8_firstDifference_2 : decode cX8_firstDifference 2 = .ok (.aload_n 0, 1) := by decide +kernel
theorem dX8_firstDifference_3 : decode cX8_firstDifference 3 = .ok (.getfield 40, 3) := by decide +kernel
theorem dX8_firstDifference_6 : decode cX8_firstDifference 6 = .ok (.iconst 2, 1) := by decide +kernel
theorem dX8_firstDifference_7 : decode cX8_firstDifference 7 = .ok (.iaload, 1) := by decide +kernel
theorem dX8_firstDifference_8 : decode cX8_firstDifference 8 = .ok (.invokestatic 177, 3) := by decide +kernel
theorem dX8_firstDifference_11 : decode cX8_firstDifference 11 = .ok (.istore_n 1, 1) := by decide +kernel
theorem dX8_firstDifference_12 : decode cX8_firstDifference 12 = .ok (.bipush 40, 2) := by decide +kernel
theorem dX8_firstDifference_14 : decode cX8_firstDifference 14 = .ok (.aload_n 0, 1) := by decide +kernel
theorem dX8_firstDifference_15 : decode cX8_firstDifference 15 = .ok (.getfield 40, 3) := by decide +kernel
theorem dX8_firstDifference_18 : decode cX8_firstDifference 18 = .ok (.bipush 8, 2) := by decide +kernel
theorem dX8_firstDifference_20 : decode cX8_firstDifference 20 = .ok (.iaload, 1) := by decide +kernel
theorem dX8_firstDifference_21 : decode cX8_firstDifference 21 = .ok (.invokestatic 177, 3) := by decide +kernel
theorem dX8_firstDifference_24 : decode cX8_firstDifference 24 = .ok (.istore_n 2, 1) := by decide +kernel
theorem dX8_firstDifference_25 : decode cX8_firstDifference 25 = .ok (.iconst 0, 1) := by decide +kernel
theorem dX8_firstDifference_26 : decode cX8_firstDifference 26 = .ok (.istore_n 3, 1) := by decide +kernel
theorem dX8_firstDifference_27 : decode cX8_firstDifference 27 = .ok (.iload_n 3, 1) := by decide +kernel
theorem dX8_firstDifference_28 : decode cX8_firstDifference 28 = .ok (.iload_n 1, 1) := by decide +kernel
theorem dX8_firstDifference_29 : decode cX8_firstDifference 29 = .ok (.if_icmp .lt 8, 3) := by decide +kernel
theorem dX8_firstDifference_32 : decode cX8_firstDifference 32 = .ok (.iload_n 3, 1) := by decide +kernel
theorem dX8_firstDifference_33 : decode cX8_firstDifference 33 = .ok (.iload_n 2, 1) := by decide +kernel
theorem dX8_firstDifference_34 : decode cX8_firstDifference 34 = .ok (.if_icmp .ge 39, 3) := by decide +kernel
theorem dX8_firstDifference_37 : decode cX8_firstDifference 37 = .ok (.iload_n 3, 1) := by decide +kernel
theorem dX8_firstDifference_38 : decode cX8_firstDifference 38 = .ok (.iload_n 1, 1) := by decide +kernel
theorem dX8_firstDifference_39 : decode cX8_firstDifference 39 = .ok (.if_icmp .ge 26, 3) := by decide +kernel
theorem dX8_firstDifference_42 : decode cX8_firstDifference 42 = .ok (.iload_n 3, 1) := by decide +kernel
theorem dX8_firstDifference_43 : decode cX8_firstDifference 43 = .ok (.iload_n 2, 1) := by decide +kernel
theorem dX8_firstDifference_44 : decode cX8_firstDifference 44 = .ok (.if_icmp .ge 21, 3) := by decide +kernel
theorem dX8_firstDifference_47 : decode cX8_firstDifference 47 = .ok (.aload_n 0, 1) := by decide +kernel
theorem dX8_firstDifference_48 : decode cX8_firstDifference 48 = .ok (.getfield 31, 3) := by decide +kernel
theorem dX8_firstDifference_51 : decode cX8_firstDifference 51 = .ok (.iload_n 3, 1) := by decide +kernel
theorem dX8_firstDifference_52 : decode cX8_firstDifference 52 = .ok (.iaload, 1) := by decide +kernel
theorem dX8_firstDifference_53 : decode cX8_firstDifference 53 = .ok (.aload_n 0, 1) := by decide +kernel
theorem dX8_firstDifference_54 : decode cX8_firstDifference 54 = .ok (.getfield 31, 3) := by decide +kernel
theorem dX8_firstDifference_57 : decode cX8_firstDifference 57 = .ok (.bipush 40, 2) := by decide +kernel
theorem dX8_firstDifference_59 : decode cX8_firstDifference 59 = .ok (.iload_n 3, 1) := by decide +kernel
theorem dX8_firstDifference_60 : decode cX8_firstDifference 60 = .ok (.iadd, 1) := by decide +kernel
theorem dX8_firstDifference_61 : decode cX8_firstDifference 61 = .ok (.iaload, 1) := by decide +kernel
theorem dX8_firstDifference_62 : decode cX8_firstDifference 62 = .ok (.if_icmp .eq 5, 3) := by decide +kernel
theorem dX8_firstDifference_65 : decode cX8_firstDifference 65 = .ok (.iload_n 3, 1) := by decide +kernel
theorem dX8_firstDifference_66 : decode cX8_firstDifference 66 = .ok (.ireturn, 1) := by decide +kernel
theorem dX8_firstDifference_67 : decode cX8_firstDifference 67 = .ok (.iinc 3 1, 3) := by decide +kernel
theorem dX8_firstDifference_70 : decode cX8_firstDifference 70 = .ok (.goto (-43), 3) := by decide +kernel
theorem dX8_firstDifference_73 : decode cX8_firstDifference 73 = .ok (.sipush (-10009), 3) := by decide +kernel
theorem dX8_firstDifference_76 : decode cX8_firstDifference 76 = .ok (.ireturn, 1) := by decide +kernel
theorem dX8_difference_0 : decode cX8_difference 0 = .ok (.iload_n 1, 1) := by decide +kernel
theorem dX8_difference_1 : decode cX8_difference 1 = .ok (.iload_n 2, 1) := by decide +kernel
theorem dX8_difference_2 : decode cX8_difference 2 = .ok (.invokestatic 171, 3) := by decide +kernel
theorem dX8_difference_5 : decode cX8_difference 5 = .ok (.ifCond .ne 7, 3) := by decide +kernel
theorem dX8_difference_8 : decode cX8_difference 8 = .ok (.sipush (-10001), 3) := by decide +kernel
theorem dX8_difference_11 : decode cX8_difference 11 = .ok (.ireturn, 1) := by decide +kernel
theorem dX8_difference_12 : decode cX8_difference 12 = .ok (.aload_n 0, 1) := by decide +kernel
theorem dX8_difference_13 : decode cX8_difference 13 = .ok (.iload_n 1, 1) := by decide +kernel
theorem dX8_difference_14 : decode cX8_difference 14 = .ok (.iload_n 2, 1) := by decide +kernel
theorem dX8_difference_15 : decode cX8_difference 15 = .ok (.invokevirtual 192, 3) := by decide +kernel
theorem dX8_difference_18 : decode cX8_difference 18 = .ok (.aload_n 0, 1) := by decide +kernel
theorem dX8_difference_19 : decode cX8_difference 19 = .ok (.invokevirtual 204, 3) := by decide +kernel
theorem dX8_difference_22 : decode cX8_difference 22 = .ok (.ireturn, 1) := by decide +kernel
theorem dX8_agreeOn_0 : decode cX8_agreeOn 0 = .ok (.aload_n 0, 1) := by decide +kernel
theorem dX8_agreeOn_1 : decode cX8_agreeOn 1 = .ok (.iload_n 1, 1) := by decide +kernel
theorem dX8_agreeOn_2 : decode cX8_agreeOn 2 = .ok (.iload_n 2, 1) := by decide +kernel
theorem dX8_agreeOn_3 : decode cX8_agreeOn 3 = .ok (.invokevirtual 192, 3) := by decide +kernel
theorem dX8_agreeOn_6 : decode cX8_agreeOn 6 = .ok (.aload_n 0, 1) := by decide +kernel
theorem dX8_agreeOn_7 : decode cX8_agreeOn 7 = .ok (.getfield 40, 3) := by decide +kernel
theorem dX8_agreeOn_10 : decode cX8_agreeOn 10 = .ok (.iconst 1, 1) := by decide +kernel
theorem dX8_agreeOn_11 : decode cX8_agreeOn 11 = .ok (.iaload, 1) := by decide +kernel
theorem dX8_agreeOn_12 : decode cX8_agreeOn 12 = .ok (.ifCond .ne 43, 3) := by decide +kernel
theorem dX8_agreeOn_15 : decode cX8_agreeOn 15 = .ok (.aload_n 0, 1) := by decide +kernel
theorem dX8_agreeOn_16 : decode cX8_agreeOn 16 = .ok (.getfield 40, 3) := by decide +kernel
theorem dX8_agreeOn_19 : decode cX8_agreeOn 19 = .ok (.bipush 7, 2) := by decide +kernel
theorem dX8_agreeOn_21 : decode cX8_agreeOn 21 = .ok (.iaload, 1) := by decide +kernel
theorem dX8_agreeOn_22 : decode cX8_agreeOn 22 = .ok (.ifCond .ne 33, 3) := by decide +kernel
theorem dX8_agreeOn_25 : decode cX8_agreeOn 25 = .ok (.aload_n 0, 1) := by decide +kernel
theorem dX8_agreeOn_26 : decode cX8_agreeOn 26 = .ok (.getfield 40, 3) := by decide +kernel
theorem dX8_agreeOn_29 : decode cX8_agreeOn 29 = .ok (.iconst 2, 1) := by decide +kernel
theorem dX8_agreeOn_30 : decode cX8_agreeOn 30 = .ok (.iaload, 1) := by decide +kernel
theorem dX8_agreeOn_31 : decode cX8_agreeOn 31 = .ok (.aload_n 0, 1) := by decide +kernel
theorem dX8_agreeOn_32 : decode cX8_agreeOn 32 = .ok (.getfield 40, 3) := by decide +kernel
theorem dX8_agreeOn_35 : decode cX8_agreeOn 35 = .ok (.bipush 8, 2) := by decide +kernel
theorem dX8_agreeOn_37 : decode cX8_agreeOn 37 = .ok (.iaload, 1) := by decide +kernel
theorem dX8_agreeOn_38 : decode cX8_agreeOn 38 = .ok (.if_icmp .ne 17, 3) := by decide +kernel
theorem dX8_agreeOn_41 : decode cX8_agreeOn 41 = .ok (.aload_n 0, 1) := by decide +kernel
theorem dX8_agreeOn_42 : decode cX8_agreeOn 42 = .ok (.invokevirtual 204, 3) := by decide +kernel
theorem dX8_agreeOn_45 : decode cX8_agreeOn 45 = .ok (.sipush (-10009), 3) := by decide +kernel
theorem dX8_agreeOn_48 : decode cX8_agreeOn 48 = .ok (.if_icmp .ne 7, 3) := by decide +kernel
theorem dX8_agreeOn_51 : decode cX8_agreeOn 51 = .ok (.iconst 1, 1) := by decide +kernel
theorem dX8_agreeOn_52 : decode cX8_agreeOn 52 = .ok (.goto 4, 3) := by decide +kernel
theorem dX8_agreeOn_55 : decode cX8_agreeOn 55 = .ok (.iconst 0, 1) := by decide +kernel
theorem dX8_agreeOn_56 : decode cX8_agreeOn 56 = .ok (.ireturn, 1) := by decide +kernel
theorem dX8_agree_0 : decode cX8_agree 0 = .ok (.iload_n 1, 1) := by decide +kernel
theorem dX8_agree_1 : decode cX8_agree 1 = .ok (.bipush (-9), 2) := by decide +kernel
theorem dX8_agree_3 : decode cX8_agree 3 = .ok (.bipush 9, 2) := by decide +kernel
theorem dX8_agree_5 : decode cX8_agree 5 = .ok (.invokestatic 61, 3) := by decide +kernel
theorem dX8_agree_8 : decode cX8_agree 8 = .ok (.ifCond .eq 22, 3) := by decide +kernel
theorem dX8_agree_11 : decode cX8_agree 11 = .ok (.iload_n 2, 1) := by decide +kernel
theorem dX8_agree_12 : decode cX8_agree 12 = .ok (.iload_n 1, 1) := by decide +kernel
theorem dX8_agree_13 : decode cX8_agree 13 = .ok (.bipush 9, 2) := by decide +kernel
theorem dX8_agree_15 : decode cX8_agree 15 = .ok (.invokestatic 61, 3) := by decide +kernel
theorem dX8_agree_18 : decode cX8_agree 18 = .ok (.ifCond .eq 12, 3) := by decide +kernel
theorem dX8_agree_21 : decode cX8_agree 21 = .ok (.iload_n 3, 1) := by decide +kernel
theorem dX8_agree_22 : decode cX8_agree 22 = .ok (.iconst 0, 1) := by decide +kernel
theorem dX8_agree_23 : decode cX8_agree 23 = .ok (.iconst 2, 1) := by decide +kernel
theorem dX8_agree_24 : decode cX8_agree 24 = .ok (.invokestatic 61, 3) := by decide +kernel
theorem dX8_agree_27 : decode cX8_agree 27 = .ok (.ifCond .ne 7, 3) := by decide +kernel
theorem dX8_agree_30 : decode cX8_agree 30 = .ok (.sipush (-10001), 3) := by decide +kernel
theorem dX8_agree_33 : decode cX8_agree 33 = .ok (.ireturn, 1) := by decide +kernel
theorem dX8_agree_34 : decode cX8_agree 34 = .ok (.iconst 0, 1) := by decide +kernel
theorem dX8_agree_35 : decode cX8_agree 35 = .ok (.istore 4, 2) := by decide +kernel
theorem dX8_agree_37 : decode cX8_agree 37 = .ok (.sipush (-10009), 3) := by decide +kernel
theorem dX8_agree_40 : decode cX8_agree 40 = .ok (.istore 5, 2) := by decide +kernel
theorem dX8_agree_42 : decode cX8_agree 42 = .ok (.sipush (-10009), 3) := by decide +kernel
theorem dX8_agree_45 : decode cX8_agree 45 = .ok (.istore 6, 2) := by decide +kernel
theorem dX8_agree_47 : decode cX8_agree 47 = .ok (.iload_n 1, 1) := by decide +kernel
theorem dX8_agree_48 : decode cX8_agree 48 = .ok (.istore 7, 2) := by decide +kernel
theorem dX8_agree_50 : decode cX8_agree 50 = .ok (.iload 7, 2) := by decide +kernel
theorem dX8_agree_52 : decode cX8_agree 52 = .ok (.iload_n 2, 1) := by decide +kernel
theorem dX8_agree_53 : decode cX8_agree 53 = .ok (.if_icmp .gt 97, 3) := by decide +kernel
theorem dX8_agree_56 : decode cX8_agree 56 = .ok (.iload_n 1, 1) := by decide +kernel
theorem dX8_agree_57 : decode cX8_agree 57 = .ok (.istore 8, 2) := by decide +kernel
theorem dX8_agree_59 : decode cX8_agree 59 = .ok (.iload 8, 2) := by decide +kernel
theorem dX8_agree_61 : decode cX8_agree 61 = .ok (.iload_n 2, 1) := by decide +kernel
theorem dX8_agree_62 : decode cX8_agree 62 = .ok (.if_icmp .gt 82, 3) := by decide +kernel
theorem dX8_agree_65 : decode cX8_agree 65 = .ok (.aload_n 0, 1) := by decide +kernel
theorem dX8_agree_66 : decode cX8_agree 66 = .ok (.iload 7, 2) := by decide +kernel
theorem dX8_agree_68 : decode cX8_agree 68 = .ok (.iload 8, 2) := by decide +kernel
theorem dX8_agree_70 : decode cX8_agree 70 = .ok (.invokevirtual 207, 3) := by decide +kernel
theorem dX8_agree_73 : decode cX8_agree 73 = .ok (.istore 9, 2) := by decide +kernel
theorem dX8_agree_75 : decode cX8_agree 75 = .ok (.iload 4, 2) := by decide +kernel
theorem dX8_agree_77 : decode cX8_agree 77 = .ok (.iload 9, 2) := by decide +kernel
theorem dX8_agree_79 : decode cX8_agree 79 = .ok (.ifCond .eq 7, 3) := by decide +kernel
theorem dX8_agree_82 : decode cX8_agree 82 = .ok (.iconst 1, 1) := by decide +kernel
theorem dX8_agree_83 : decode cX8_agree 83 = .ok (.goto 4, 3) := by decide +kernel
theorem dX8_agree_86 : decode cX8_agree 86 = .ok (.iconst 0, 1) := by decide +kernel
theorem dX8_agree_87 : decode cX8_agree 87 = .ok (.iadd, 1) := by decide +kernel
theorem dX8_agree_88 : decode cX8_agree 88 = .ok (.istore 4, 2) := by decide +kernel
theorem dX8_agree_90 : decode cX8_agree 90 = .ok (.iload 9, 2) := by decide +kernel
theorem dX8_agree_92 : decode cX8_agree 92 = .ok (.ifCond .ne 15, 3) := by decide +kernel
theorem dX8_agree_95 : decode cX8_agree 95 = .ok (.iload 5, 2) := by decide +kernel
theorem dX8_agree_97 : decode cX8_agree 97 = .ok (.sipush (-10009), 3) := by decide +kernel
theorem dX8_agree_100 : decode cX8_agree 100 = .ok (.if_icmp .ne 7, 3) := by decide +kernel
theorem dX8_agree_103 : decode cX8_agree 103 = .ok (.iconst 1, 1) := by decide +kernel
theorem dX8_agree_104 : decode cX8_agree 104 = .ok (.goto 4, 3) := by decide +kernel
theorem dX8_agree_107 : decode cX8_agree 107 = .ok (.iconst 0, 1) := by decide +kernel
theorem dX8_agree_108 : decode cX8_agree 108 = .ok (.istore 10, 2) := by decide +kernel
theorem dX8_agree_110 : decode cX8_agree 110 = .ok (.iload 10, 2) := by decide +kernel
theorem dX8_agree_112 : decode cX8_agree 112 = .ok (.ifCond .eq 8, 3) := by decide +kernel
theorem dX8_agree_115 : decode cX8_agree 115 = .ok (.iload 7, 2) := by decide +kernel
theorem dX8_agree_117 : decode cX8_agree 117 = .ok (.goto 5, 3) := by decide +kernel
theorem dX8_agree_120 : decode cX8_agree 120 = .ok (.iload 5, 2) := by decide +kernel
theorem dX8_agree_122 : decode cX8_agree 122 = .ok (.istore 5, 2) := by decide +kernel
theorem dX8_agree_124 : decode cX8_agree 124 = .ok (.iload 10, 2) := by decide +kernel
theorem dX8_agree_126 : decode cX8_agree 126 = .ok (.ifCond .eq 8, 3) := by decide +kernel
theorem dX8_agree_129 : decode cX8_agree 129 = .ok (.iload 8, 2) := by decide +kernel
theorem dX8_agree_131 : decode cX8_agree 131 = .ok (.goto 5, 3) := by decide +kernel
theorem dX8_agree_134 : decode cX8_agree 134 = .ok (.iload 6, 2) := by decide +kernel
theorem dX8_agree_136 : decode cX8_agree 136 = .ok (.istore 6, 2) := by decide +kernel
theorem dX8_agree_138 : decode cX8_agree 138 = .ok (.iinc 8 1, 3) := by decide +kernel
theorem dX8_agree_141 : decode cX8_agree 141 = .ok (.goto (-82), 3) := by decide +kernel
theorem dX8_agree_144 : decode cX8_agree 144 = .ok (.iinc 7 1, 3) := by decide +kernel
theorem dX8_agree_147 : decode cX8_agree 147 = .ok (.goto (-97), 3) := by decide +kernel
theorem dX8_agree_150 : decode cX8_agree 150 = .ok (.iload_n 3, 1) := by decide +kernel
theorem dX8_agree_151 : decode cX8_agree 151 = .ok (.ifCond .ne 8, 3) := by decide +kernel
theorem dX8_agree_154 : decode cX8_agree 154 = .ok (.iload 4, 2) := by decide +kernel
theorem dX8_agree_156 : decode cX8_agree 156 = .ok (.goto 15, 3) := by decide +kernel
theorem dX8_agree_159 : decode cX8_agree 159 = .ok (.iload_n 3, 1) := by decide +kernel
theorem dX8_agree_160 : decode cX8_agree 160 = .ok (.iconst 1, 1) := by decide +kernel
theorem dX8_agree_161 : decode cX8_agree 161 = .ok (.if_icmp .ne 8, 3) := by decide +kernel
theorem dX8_agree_164 : decode cX8_agree 164 = .ok (.iload 5, 2) := by decide +kernel
theorem dX8_agree_166 : decode cX8_agree 166 = .ok (.goto 5, 3) := by decide +kernel
theorem dX8_agree_169 : decode cX8_agree 169 = .ok (.iload 6, 2) := by decide +kernel
theorem dX8_agree_171 : decode cX8_agree 171 = .ok (.ireturn, 1) := by decide +kernel
theorem dX8_always_0 : decode cX8_always 0 = .ok (.iload_n 1, 1) := by decide +kernel
theorem dX8_always_1 : decode cX8_always 1 = .ok (.invokestatic 180, 3) := by decide +kernel
theorem dX8_always_4 : decode cX8_always 4 = .ok (.ifCond .ne 7, 3) := by decide +kernel
theorem dX8_always_7 : decode cX8_always 7 = .ok (.sipush (-10001), 3) := by decide +kernel
theorem dX8_always_10 : decode cX8_always 10 = .ok (.ireturn, 1) := by decide +kernel
theorem dX8_always_11 : decode cX8_always 11 = .ok (.bipush 63, 2) := by decide +kernel
theorem dX8_always_13 : decode cX8_always 13 = .ok (.istore_n 2, 1) := by decide +kernel
theorem dX8_always_14 : decode cX8_always 14 = .ok (.iconst 0, 1) := by decide +kernel
theorem dX8_always_15 : decode cX8_always 15 = .ok (.istore_n 3, 1) := by decide +kernel
theorem dX8_always_16 : decode cX8_always 16 = .ok (.iload_n 3, 1) := by decide +kernel
theorem dX8_always_17 : decode cX8_always 17 = .ok (.bipush 16, 2) := by decide +kernel
theorem dX8_always_19 : decode cX8_always 19 = .ok (.if_icmp .ge 27, 3) := by decide +kernel
theorem dX8_always_22 : decode cX8_always 22 = .ok (.aload_n 0, 1) := by decide +kernel
theorem dX8_always_23 : decode cX8_always 23 = .ok (.iload_n 3, 1) := by decide +kernel
theorem dX8_always_24 : decode cX8_always 24 = .ok (.iconst 4, 1) := by decide +kernel
theorem dX8_always_25 : decode cX8_always 25 = .ok (.idiv, 1) := by decide +kernel
theorem dX8_always_26 : decode cX8_always 26 = .ok (.iload_n 3, 1) := by decide +kernel
theorem dX8_always_27 : decode cX8_always 27 = .ok (.iconst 4, 1) := by decide +kernel
theorem dX8_always_28 : decode cX8_always 28 = .ok (.irem, 1) := by decide +kernel
theorem dX8_always_29 : decode cX8_always 29 = .ok (.invokevirtual 192, 3) := by decide +kernel
theorem dX8_always_32 : decode cX8_always 32 = .ok (.iload_n 2, 1) := by decide +kernel
theorem dX8_always_33 : decode cX8_always 33 = .ok (.aload_n 0, 1) := by decide +kernel
theorem dX8_always_34 : decode cX8_always 34 = .ok (.iload_n 1, 1) := by decide +kernel
theorem dX8_always_35 : decode cX8_always 35 = .ok (.invokevirtual 201, 3) := by decide +kernel
theorem dX8_always_38 : decode cX8_always 38 = .ok (.iand, 1) := by decide +kernel
theorem dX8_always_39 : decode cX8_always 39 = .ok (.istore_n 2, 1) := by decide +kernel
theorem dX8_always_40 : decode cX8_always 40 = .ok (.iinc 3 1, 3) := by decide +kernel
theorem dX8_always_43 : decode cX8_always 43 = .ok (.goto (-27), 3) := by decide +kernel
theorem dX8_always_46 : decode cX8_always 46 = .ok (.iload_n 2, 1) := by decide +kernel
theorem dX8_always_47 : decode cX8_always 47 = .ok (.ireturn, 1) := by decide +kernel
theorem dX8_keeps_0 : decode cX8_keeps 0 = .ok (.iconst 0, 1) := by decide +kernel
theorem dX8_keeps_1 : decode cX8_keeps 1 = .ok (.istore_n 2, 1) := by decide +kernel
theorem dX8_keeps_2 : decode cX8_keeps 2 = .ok (.iload_n 2, 1) := by decide +kernel
theorem dX8_keeps_3 : decode cX8_keeps 3 = .ok (.bipush 16, 2) := by decide +kernel
theorem dX8_keeps_5 : decode cX8_keeps 5 = .ok (.if_icmp .ge 99, 3) := by decide +kernel
theorem dX8_keeps_8 : decode cX8_keeps 8 = .ok (.aload_n 0, 1) := by decide +kernel
theorem dX8_keeps_9 : decode cX8_keeps 9 = .ok (.iload_n 1, 1) := by decide +kernel
theorem dX8_keeps_10 : decode cX8_keeps 10 = .ok (.iload_n 2, 1) := by decide +kernel
theorem dX8_keeps_11 : decode cX8_keeps 11 = .ok (.iconst 4, 1) := by decide +kernel
theorem dX8_keeps_12 : decode cX8_keeps 12 = .ok (.idiv, 1) := by decide +kernel
theorem dX8_keeps_13 : decode cX8_keeps 13 = .ok (.iload_n 2, 1) := by decide +kernel
theorem dX8_keeps_14 : decode cX8_keeps 14 = .ok (.iconst 4, 1) := by decide +kernel
theorem dX8_keeps_15 : decode cX8_keeps 15 = .ok (.irem, 1) := by decide +kernel
theorem dX8_keeps_16 : decode cX8_keeps 16 = .ok (.invokevirtual 174, 3) := by decide +kernel
theorem dX8_keeps_19 : decode cX8_keeps 19 = .ok (.aload_n 0, 1) := by decide +kernel
theorem dX8_keeps_20 : decode cX8_keeps 20 = .ok (.getfield 55, 3) := by decide +kernel
theorem dX8_keeps_23 : decode cX8_keeps 23 = .ok (.iload_n 2, 1) := by decide +kernel
theorem dX8_keeps_24 : decode cX8_keeps 24 = .ok (.aload_n 0, 1) := by decide +kernel
theorem dX8_keeps_25 : decode cX8_keeps 25 = .ok (.getfield 40, 3) := by decide +kernel
theorem dX8_keeps_28 : decode cX8_keeps 28 = .ok (.bipush 6, 2) := by decide +kernel
theorem dX8_keeps_30 : decode cX8_keeps 30 = .ok (.iload_n 1, 1) := by decide +kernel
theorem dX8_keeps_31 : decode cX8_keeps 31 = .ok (.imul, 1) := by decide +kernel
theorem dX8_keeps_32 : decode cX8_keeps 32 = .ok (.iconst 2, 1) := by decide +kernel
theorem dX8_keeps_33 : decode cX8_keeps 33 = .ok (.iadd, 1) := by decide +kernel
theorem dX8_keeps_34 : decode cX8_keeps 34 = .ok (.iaload, 1) := by decide +kernel
theorem dX8_keeps_35 : decode cX8_keeps 35 = .ok (.iastore, 1) := by decide +kernel
theorem dX8_keeps_36 : decode cX8_keeps 36 = .ok (.aload_n 0, 1) := by decide +kernel
theorem dX8_keeps_37 : decode cX8_keeps 37 = .ok (.getfield 58, 3) := by decide +kernel
theorem dX8_keeps_40 : decode cX8_keeps 40 = .ok (.iload_n 2, 1) := by decide +kernel
theorem dX8_keeps_41 : decode cX8_keeps 41 = .ok (.aload_n 0, 1) := by decide +kernel
theorem dX8_keeps_42 : decode cX8_keeps 42 = .ok (.getfield 40, 3) := by decide +kernel
theorem dX8_keeps_45 : decode cX8_keeps 45 = .ok (.bipush 6, 2) := by decide +kernel
theorem dX8_keeps_47 : decode cX8_keeps 47 = .ok (.iload_n 1, 1) := by decide +kernel
theorem dX8_keeps_48 : decode cX8_keeps 48 = .ok (.imul, 1) := by decide +kernel
theorem dX8_keeps_49 : decode cX8_keeps 49 = .ok (.iconst 1, 1) := by decide +kernel
theorem dX8_keeps_50 : decode cX8_keeps 50 = .ok (.iadd, 1) := by decide +kernel
theorem dX8_keeps_51 : decode cX8_keeps 51 = .ok (.iaload, 1) := by decide +kernel
theorem dX8_keeps_52 : decode cX8_keeps 52 = .ok (.iastore, 1) := by decide +kernel
theorem dX8_keeps_53 : decode cX8_keeps 53 = .ok (.iconst 0, 1) := by decide +kernel
theorem dX8_keeps_54 : decode cX8_keeps 54 = .ok (.istore_n 3, 1) := by decide +kernel
theorem dX8_keeps_55 : decode cX8_keeps 55 = .ok (.iload_n 3, 1) := by decide +kernel
theorem dX8_keeps_56 : decode cX8_keeps 56 = .ok (.bipush 40, 2) := by decide +kernel
theorem dX8_keeps_58 : decode cX8_keeps 58 = .ok (.aload_n 0, 1) := by decide +kernel
theorem dX8_keeps_59 : decode cX8_keeps 59 = .ok (.getfield 55, 3) := by decide +kernel
theorem dX8_keeps_62 : decode cX8_keeps 62 = .ok (.iload_n 2, 1) := by decide +kernel
theorem dX8_keeps_63 : decode cX8_keeps 63 = .ok (.iaload, 1) := by decide +kernel
theorem dX8_keeps_64 : decode cX8_keeps 64 = .ok (.invokestatic 177, 3) := by decide +kernel
theorem dX8_keeps_67 : decode cX8_keeps 67 = .ok (.if_icmp .ge 31, 3) := by decide +kernel
theorem dX8_keeps_70 : decode cX8_keeps 70 = .ok (.aload_n 0, 1) := by decide +kernel
theorem dX8_keeps_71 : decode cX8_keeps 71 = .ok (.getfield 52, 3) := by decide +kernel
theorem dX8_keeps_74 : decode cX8_keeps 74 = .ok (.bipush 40, 2) := by decide +kernel
theorem dX8_keeps_76 : decode cX8_keeps 76 = .ok (.iload_n 2, 1) := by decide +kernel
theorem dX8_keeps_77 : decode cX8_keeps 77 = .ok (.imul, 1) := by decide +kernel
theorem dX8_keeps_78 : decode cX8_keeps 78 = .ok (.iload_n 3, 1) := by decide +kernel
theorem dX8_keeps_79 : decode cX8_keeps 79 = .ok (.iadd, 1) := by decide +kernel
theorem dX8_keeps_80 : decode cX8_keeps 80 = .ok (.aload_n 0, 1) := by decide +kernel
theorem dX8_keeps_81 : decode cX8_keeps 81 = .ok (.getfield 31, 3) := by decide +kernel
theorem dX8_keeps_84 : decode cX8_keeps 84 = .ok (.bipush 40, 2) := by decide +kernel
theorem dX8_keeps_86 : decode cX8_keeps 86 = .ok (.iload_n 1, 1) := by decide +kernel
theorem dX8_keeps_87 : decode cX8_keeps 87 = .ok (.imul, 1) := by decide +kernel
theorem dX8_keeps_88 : decode cX8_keeps 88 = .ok (.iload_n 3, 1) := by decide +kernel
theorem dX8_keeps_89 : decode cX8_keeps 89 = .ok (.iadd, 1) := by decide +kernel
theorem dX8_keeps_90 : decode cX8_keeps 90 = .ok (.iaload, 1) := by decide +kernel
theorem dX8_keeps_91 : decode cX8_keeps 91 = .ok (.iastore, 1) := by decide +kernel
theorem dX8_keeps_92 : decode cX8_keeps 92 = .ok (.iinc 3 1, 3) := by decide +kernel
theorem dX8_keeps_95 : decode cX8_keeps 95 = .ok (.goto (-40), 3) := by decide +kernel
theorem dX8_keeps_98 : decode cX8_keeps 98 = .ok (.iinc 2 1, 3) := by decide +kernel
theorem dX8_keeps_101 : decode cX8_keeps 101 = .ok (.goto (-99), 3) := by decide +kernel
theorem dX8_keeps_104 : decode cX8_keeps 104 = .ok (.return_, 1) := by decide +kernel
theorem dX8_isIdle_0 : decode cX8_isIdle 0 = .ok (.iconst 1, 1) := by decide +kernel
theorem dX8_isIdle_1 : decode cX8_isIdle 1 = .ok (.istore_n 3, 1) := by decide +kernel
theorem dX8_isIdle_2 : decode cX8_isIdle 2 = .ok (.iconst 0, 1) := by decide +kernel
theorem dX8_isIdle_3 : decode cX8_isIdle 3 = .ok (.istore 4, 2) := by decide +kernel
theorem dX8_isIdle_5 : decode cX8_isIdle 5 = .ok (.iload 4, 2) := by decide +kernel
theorem dX8_isIdle_7 : decode cX8_isIdle 7 = .ok (.bipush 16, 2) := by decide +kernel
theorem dX8_isIdle_9 : decode cX8_isIdle 9 = .ok (.if_icmp .ge 148, 3) := by decide +kernel
theorem dX8_isIdle_12 : decode cX8_isIdle 12 = .ok (.iload_n 3, 1) := by decide +kernel
theorem dX8_isIdle_13 : decode cX8_isIdle 13 = .ok (.ifCond .eq 144, 3) := by decide +kernel
theorem dX8_isIdle_16 : decode cX8_isIdle 16 = .ok (.aload_n 0, 1) := by decide +kernel
theorem dX8_isIdle_17 : decode cX8_isIdle 17 = .ok (.iload_n 1, 1) := by decide +kernel
theorem dX8_isIdle_18 : decode cX8_isIdle 18 = .ok (.invokevirtual 121, 3) := by decide +kernel
theorem dX8_isIdle_21 : decode cX8_isIdle 21 = .ok (.aload_n 0, 1) := by decide +kernel
theorem dX8_isIdle_22 : decode cX8_isIdle 22 = .ok (.iload_n 2, 1) := by decide +kernel
theorem dX8_isIdle_23 : decode cX8_isIdle 23 = .ok (.invokevirtual 134, 3) := by decide +kernel
theorem dX8_isIdle_26 : decode cX8_isIdle 26 = .ok (.aload_n 0, 1) := by decide +kernel
theorem dX8_isIdle_27 : decode cX8_isIdle 27 = .ok (.iload_n 1, 1) := by decide +kernel
theorem dX8_isIdle_28 : decode cX8_isIdle 28 = .ok (.iload 4, 2) := by decide +kernel
theorem dX8_isIdle_30 : decode cX8_isIdle 30 = .ok (.iconst 4, 1) := by decide +kernel
theorem dX8_isIdle_31 : decode cX8_isIdle 31 = .ok (.idiv, 1) := by decide +kernel
theorem dX8_isIdle_32 : decode cX8_isIdle 32 = .ok (.iload 4, 2) := by decide +kernel
theorem dX8_isIdle_34 : decode cX8_isIdle 34 = .ok (.iconst 4, 1) := by decide +kernel
theorem dX8_isIdle_35 : decode cX8_isIdle 35 = .ok (.irem, 1) := by decide +kernel
theorem dX8_isIdle_36 : decode cX8_isIdle 36 = .ok (.invokevirtual 168, 3) := by decide +kernel
theorem dX8_isIdle_39 : decode cX8_isIdle 39 = .ok (.aload_n 0, 1) := by decide +kernel
theorem dX8_isIdle_40 : decode cX8_isIdle 40 = .ok (.getfield 40, 3) := by decide +kernel
theorem dX8_isIdle_43 : decode cX8_isIdle 43 = .ok (.bipush 6, 2) := by decide +kernel
theorem dX8_isIdle_45 : decode cX8_isIdle 45 = .ok (.iload_n 1, 1) := by decide +kernel
theorem dX8_isIdle_46 : decode cX8_isIdle 46 = .ok (.imul, 1) := by decide +kernel
theorem dX8_isIdle_47 : decode cX8_isIdle 47 = .ok (.iconst 2, 1) := by decide +kernel
theorem dX8_isIdle_48 : decode cX8_isIdle 48 = .ok (.iadd, 1) := by decide +kernel
theorem dX8_isIdle_49 : decode cX8_isIdle 49 = .ok (.iaload, 1) := by decide +kernel
theorem dX8_isIdle_50 : decode cX8_isIdle 50 = .ok (.aload_n 0, 1) := by decide +kernel
theorem dX8_isIdle_51 : decode cX8_isIdle 51 = .ok (.getfield 55, 3) := by decide +kernel
theorem dX8_isIdle_54 : decode cX8_isIdle 54 = .ok (.iload 4, 2) := by decide +kernel
theorem dX8_isIdle_56 : decode cX8_isIdle 56 = .ok (.iaload, 1) := by decide +kernel
theorem dX8_isIdle_57 : decode cX8_isIdle 57 = .ok (.if_icmp .ne 28, 3) := by decide +kernel
theorem dX8_isIdle_60 : decode cX8_isIdle 60 = .ok (.aload_n 0, 1) := by decide +kernel
theorem dX8_isIdle_61 : decode cX8_isIdle 61 = .ok (.getfield 40, 3) := by decide +kernel
theorem dX8_isIdle_64 : decode cX8_isIdle 64 = .ok (.bipush 6, 2) := by decide +kernel
theorem dX8_isIdle_66 : decode cX8_isIdle 66 = .ok (.iload_n 1, 1) := by decide +kernel
theorem dX8_isIdle_67 : decode cX8_isIdle 67 = .ok (.imul, 1) := by decide +kernel
theorem dX8_isIdle_68 : decode cX8_isIdle 68 = .ok (.iconst 1, 1) := by decide +kernel
theorem dX8_isIdle_69 : decode cX8_isIdle 69 = .ok (.iadd, 1) := by decide +kernel
theorem dX8_isIdle_70 : decode cX8_isIdle 70 = .ok (.iaload, 1) := by decide +kernel
theorem dX8_isIdle_71 : decode cX8_isIdle 71 = .ok (.aload_n 0, 1) := by decide +kernel
theorem dX8_isIdle_72 : decode cX8_isIdle 72 = .ok (.getfield 58, 3) := by decide +kernel
theorem dX8_isIdle_75 : decode cX8_isIdle 75 = .ok (.iload 4, 2) := by decide +kernel
theorem dX8_isIdle_77 : decode cX8_isIdle 77 = .ok (.iaload, 1) := by decide +kernel
theorem dX8_isIdle_78 : decode cX8_isIdle 78 = .ok (.if_icmp .ne 7, 3) := by decide +kernel
theorem dX8_isIdle_81 : decode cX8_isIdle 81 = .ok (.iconst 1, 1) := by decide +kernel
theorem dX8_isIdle_82 : decode cX8_isIdle 82 = .ok (.goto 4, 3) := by decide +kernel
theorem dX8_isIdle_85 : decode cX8_isIdle 85 = .ok (.iconst 0, 1) := by decide +kernel
theorem dX8_isIdle_86 : decode cX8_isIdle 86 = .ok (.istore_n 3, 1) := by decide +kernel
theorem dX8_isIdle_87 : decode cX8_isIdle 87 = .ok (.iconst 0, 1) := by decide +kernel
theorem dX8_isIdle_88 : decode cX8_isIdle 88 = .ok (.istore 5, 2) := by decide +kernel
theorem dX8_isIdle_90 : decode cX8_isIdle 90 = .ok (.iload 5, 2) := by decide +kernel
theorem dX8_isIdle_92 : decode cX8_isIdle 92 = .ok (.bipush 40, 2) := by decide +kernel
theorem dX8_isIdle_94 : decode cX8_isIdle 94 = .ok (.aload_n 0, 1) := by decide +kernel
theorem dX8_isIdle_95 : decode cX8_isIdle 95 = .ok (.getfield 55, 3) := by decide +kernel
theorem dX8_isIdle_98 : decode cX8_isIdle 98 = .ok (.iload 4, 2) := by decide +kernel
theorem dX8_isIdle_100 : decode cX8_isIdle 100 = .ok (.iaload, 1) := by decide +kernel
theorem dX8_isIdle_101 : decode cX8_isIdle 101 = .ok (.invokestatic 177, 3) := by decide +kernel
theorem dX8_isIdle_104 : decode cX8_isIdle 104 = .ok (.if_icmp .ge 47, 3) := by decide +kernel
theorem dX8_isIdle_107 : decode cX8_isIdle 107 = .ok (.iload_n 3, 1) := by decide +kernel
theorem dX8_isIdle_108 : decode cX8_isIdle 108 = .ok (.ifCond .eq 43, 3) := by decide +kernel
theorem dX8_isIdle_111 : decode cX8_isIdle 111 = .ok (.aload_n 0, 1) := by decide +kernel
theorem dX8_isIdle_112 : decode cX8_isIdle 112 = .ok (.getfield 52, 3) := by decide +kernel
theorem dX8_isIdle_115 : decode cX8_isIdle 115 = .ok (.bipush 40, 2) := by decide +kernel
theorem dX8_isIdle_117 : decode cX8_isIdle 117 = .ok (.iload 4, 2) := by decide +kernel
theorem dX8_isIdle_119 : decode cX8_isIdle 119 = .ok (.imul, 1) := by decide +kernel
theorem dX8_isIdle_120 : decode cX8_isIdle 120 = .ok (.iload 5, 2) := by decide +kernel
theorem dX8_isIdle_122 : decode cX8_isIdle 122 = .ok (.iadd, 1) := by decide +kernel
theorem dX8_isIdle_123 : decode cX8_isIdle 123 = .ok (.iaload, 1) := by decide +kernel
theorem dX8_isIdle_124 : decode cX8_isIdle 124 = .ok (.aload_n 0, 1) := by decide +kernel
theorem dX8_isIdle_125 : decode cX8_isIdle 125 = .ok (.getfield 31, 3) := by decide +kernel
theorem dX8_isIdle_128 : decode cX8_isIdle 128 = .ok (.bipush 40, 2) := by decide +kernel
theorem dX8_isIdle_130 : decode cX8_isIdle 130 = .ok (.iload_n 1, 1) := by decide +kernel
theorem dX8_isIdle_131 : decode cX8_isIdle 131 = .ok (.imul, 1) := by decide +kernel
theorem dX8_isIdle_132 : decode cX8_isIdle 132 = .ok (.iload 5, 2) := by decide +kernel
theorem dX8_isIdle_134 : decode cX8_isIdle 134 = .ok (.iadd, 1) := by decide +kernel
theorem dX8_isIdle_135 : decode cX8_isIdle 135 = .ok (.iaload, 1) := by decide +kernel
theorem dX8_isIdle_136 : decode cX8_isIdle 136 = .ok (.if_icmp .ne 7, 3) := by decide +kernel
theorem dX8_isIdle_139 : decode cX8_isIdle 139 = .ok (.iconst 1, 1) := by decide +kernel
theorem dX8_isIdle_140 : decode cX8_isIdle 140 = .ok (.goto 4, 3) := by decide +kernel
theorem dX8_isIdle_143 : decode cX8_isIdle 143 = .ok (.iconst 0, 1) := by decide +kernel
theorem dX8_isIdle_144 : decode cX8_isIdle 144 = .ok (.istore_n 3, 1) := by decide +kernel
theorem dX8_isIdle_145 : decode cX8_isIdle 145 = .ok (.iinc 5 1, 3) := by decide +kernel
theorem dX8_isIdle_148 : decode cX8_isIdle 148 = .ok (.goto (-58), 3) := by decide +kernel
theorem dX8_isIdle_151 : decode cX8_isIdle 151 = .ok (.iinc 4 1, 3) := by decide +kernel
theorem dX8_isIdle_154 : decode cX8_isIdle 154 = .ok (.goto (-149), 3) := by decide +kernel
theorem dX8_isIdle_157 : decode cX8_isIdle 157 = .ok (.iload_n 3, 1) := by decide +kernel
theorem dX8_isIdle_158 : decode cX8_isIdle 158 = .ok (.ireturn, 1) := by decide +kernel
theorem dX8_idle_0 : decode cX8_idle 0 = .ok (.iload_n 1, 1) := by decide +kernel
theorem dX8_idle_1 : decode cX8_idle 1 = .ok (.invokestatic 107, 3) := by decide +kernel
theorem dX8_idle_4 : decode cX8_idle 4 = .ok (.ifCond .ne 7, 3) := by decide +kernel
theorem dX8_idle_7 : decode cX8_idle 7 = .ok (.sipush (-10001), 3) := by decide +kernel
theorem dX8_idle_10 : decode cX8_idle 10 = .ok (.ireturn, 1) := by decide +kernel
theorem dX8_idle_11 : decode cX8_idle 11 = .ok (.aload_n 0, 1) := by decide +kernel
theorem dX8_idle_12 : decode cX8_idle 12 = .ok (.iload_n 1, 1) := by decide +kernel
theorem dX8_idle_13 : decode cX8_idle 13 = .ok (.invokevirtual 210, 3) := by decide +kernel
theorem dX8_idle_16 : decode cX8_idle 16 = .ok (.iconst 0, 1) := by decide +kernel
theorem dX8_idle_17 : decode cX8_idle 17 = .ok (.istore_n 2, 1) := by decide +kernel
theorem dX8_idle_18 : decode cX8_idle 18 = .ok (.iload_n 2, 1) := by decide +kernel
theorem dX8_idle_19 : decode cX8_idle 19 = .ok (.aload_n 0, 1) := by decide +kernel
theorem dX8_idle_20 : decode cX8_idle 20 = .ok (.getfield 7, 3) := by decide +kernel
theorem dX8_idle_23 : decode cX8_idle 23 = .ok (.sipush 421, 3) := by decide +kernel
theorem dX8_idle_26 : decode cX8_idle 26 = .ok (.iload_n 1, 1) := by decide +kernel
theorem dX8_idle_27 : decode cX8_idle 27 = .ok (.imul, 1) := by decide +kernel
theorem dX8_idle_28 : decode cX8_idle 28 = .ok (.iaload, 1) := by decide +kernel
theorem dX8_idle_29 : decode cX8_idle 29 = .ok (.if_icmp .ge 20, 3) := by decide +kernel
theorem dX8_idle_32 : decode cX8_idle 32 = .ok (.aload_n 0, 1) := by decide +kernel
theorem dX8_idle_33 : decode cX8_idle 33 = .ok (.iload_n 1, 1) := by decide +kernel
theorem dX8_idle_34 : decode cX8_idle 34 = .ok (.iload_n 2, 1) := by decide +kernel
theorem dX8_idle_35 : decode cX8_idle 35 = .ok (.invokevirtual 213, 3) := by decide +kernel
theorem dX8_idle_38 : decode cX8_idle 38 = .ok (.ifCond .eq 5, 3) := by decide +kernel
theorem dX8_idle_41 : decode cX8_idle 41 = .ok (.iload_n 2, 1) := by decide +kernel
theorem dX8_idle_42 : decode cX8_idle 42 = .ok (.ireturn, 1) := by decide +kernel
theorem dX8_idle_43 : decode cX8_idle 43 = .ok (.iinc 2 1, 3) := by decide +kernel
theorem dX8_idle_46 : decode cX8_idle 46 = .ok (.goto (-28), 3) := by decide +kernel
theorem dX8_idle_49 : decode cX8_idle 49 = .ok (.sipush (-10009), 3) := by decide +kernel
theorem dX8_idle_52 : decode cX8_idle 52 = .ok (.ireturn, 1) := by decide +kernel
theorem dL_law_0 : decode cL_law 0 = .ok (.new 7, 3) := by decide +kernel
theorem dL_law_3 : decode cL_law 3 = .ok (.dup, 1) := by decide +kernel
theorem dL_law_4 : decode cL_law 4 = .ok (.invokespecial 9, 3) := by decide +kernel
theorem dL_law_7 : decode cL_law 7 = .ok (.astore_n 1, 1) := by decide +kernel
theorem dL_law_8 : decode cL_law 8 = .ok (.new 10, 3) := by decide +kernel
theorem dL_law_11 : decode cL_law 11 = .ok (.dup, 1) := by decide +kernel
theorem dL_law_12 : decode cL_law 12 = .ok (.invokespecial 12, 3) := by decide +kernel
theorem dL_law_15 : decode cL_law 15 = .ok (.astore_n 2, 1) := by decide +kernel
theorem dL_law_16 : decode cL_law 16 = .ok (.iconst 0, 1) := by decide +kernel
theorem dL_law_17 : decode cL_law 17 = .ok (.istore_n 3, 1) := by decide +kernel
theorem dL_law_18 : decode cL_law 18 = .ok (.iload_n 3, 1) := by decide +kernel
theorem dL_law_19 : decode cL_law 19 = .ok (.aload_n 0, 1) := by decide +kernel
theorem dL_law_20 : decode cL_law 20 = .ok (.arraylength, 1) := by decide +kernel
theorem dL_law_21 : decode cL_law 21 = .ok (.bipush 6, 2) := by decide +kernel
theorem dL_law_23 : decode cL_law 23 = .ok (.isub, 1) := by decide +kernel
theorem dL_law_24 : decode cL_law 24 = .ok (.if_icmp .gt 666, 3) := by decide +kernel
theorem dL_law_27 : decode cL_law 27 = .ok (.aload_n 0, 1) := by decide +kernel
theorem dL_law_28 : decode cL_law 28 = .ok (.iload_n 3, 1) := by decide +kernel
theorem dL_law_29 : decode cL_law 29 = .ok (.iaload, 1) := by decide +kernel
theorem dL_law_30 : decode cL_law 30 = .ok (.bipush 31, 2) := by decide +kernel
theorem dL_law_32 : decode cL_law 32 = .ok (.iand, 1) := by decide +kernel
theorem dL_law_33 : decode cL_law 33 = .ok (.tableswitch 651 0 17 #[87, 110, 123, 146, 159, 172, 205, 218, 241, 274, 327, 380, 443, 486, 529, 562, 605, 628], 87) := by decide +kernel
theorem dL_law_120 : decode cL_law 120 = .ok (.aload_n 1, 1) := by decide +kernel
theorem dL_law_121 : decode cL_law 121 = .ok (.aload_n 0, 1) := by decide +kernel
theorem dL_law_122 : decode cL_law 122 = .ok (.iload_n 3, 1) := by decide +kernel
theorem dL_law_123 : decode cL_law 123 = .ok (.iconst 1, 1) := by decide +kernel
theorem dL_law_124 : decode cL_law 124 = .ok (.iadd, 1) := by decide +kernel
theorem dL_law_125 : decode cL_law 125 = .ok (.iaload, 1) := by decide +kernel
theorem dL_law_126 : decode cL_law 126 = .ok (.invokevirtual 13, 3) := by decide +kernel
theorem dL_law_129 : decode cL_law 129 = .ok (.aload_n 2, 1) := by decide +kernel
theorem dL_law_130 : decode cL_law 130 = .ok (.aload_n 0, 1) := by decide +kernel
theorem dL_law_131 : decode cL_law 131 = .ok (.iload_n 3, 1) := by decide +kernel
theorem dL_law_132 : decode cL_law 132 = .ok (.iconst 1, 1) := by decide +kernel
theorem dL_law_133 : decode cL_law 133 = .ok (.iadd, 1) := by decide +kernel
theorem dL_law_134 : decode cL_law 134 = .ok (.iaload, 1) := by decide +kernel
theorem dL_law_135 : decode cL_law 135 = .ok (.invokevirtual 17, 3) := by decide +kernel
theorem dL_law_138 : decode cL_law 138 = .ok (.if_icmp .eq 546, 3) := by decide +kernel
theorem dL_law_141 : decode cL_law 141 = .ok (.iconst 0, 1) := by decide +kernel
theorem dL_law_142 : decode cL_law 142 = .ok (.ireturn, 1) := by decide +kernel
theorem dL_law_143 : decode cL_law 143 = .ok (.aload_n 1, 1) := by decide +kernel
theorem dL_law_144 : decode cL_law 144 = .ok (.invokevirtual 18, 3) := by decide +kernel
theorem dL_law_147 : decode cL_law 147 = .ok (.aload_n 2, 1) := by decide +kernel
theorem dL_law_148 : decode cL_law 148 = .ok (.invokevirtual 22, 3) := by decide +kernel
theorem dL_law_151 : decode cL_law 151 = .ok (.if_icmp .eq 533, 3) := by decide +kernel
theorem dL_law_154 : decode cL_law 154 = .ok (.iconst 0, 1) := by decide +kernel
theorem dL_law_155 : decode cL_law 155 = .ok (.ireturn, 1) := by decide +kernel
theorem dL_law_156 : decode cL_law 156 = .ok (.aload_n 1, 1) := by decide +kernel
theorem dL_law_157 : decode cL_law 157 = .ok (.aload_n 0, 1) := by decide +kernel
theorem dL_law_158 : decode cL_law 158 = .ok (.iload_n 3, 1) := by decide +kernel
theorem dL_law_159 : decode cL_law 159 = .ok (.iconst 1, 1) := by decide +kernel
theorem dL_law_160 : decode cL_law 160 = .ok (.iadd, 1) := by decide +kernel
theorem dL_law_161 : decode cL_law 161 = .ok (.iaload, 1) := by decide +kernel
theorem dL_law_162 : decode cL_law 162 = .ok (.invokevirtual 23, 3) := by decide +kernel
theorem dL_law_165 : decode cL_law 165 = .ok (.aload_n 2, 1) := by decide +kernel
theorem dL_law_166 : decode cL_law 166 = .ok (.aload_n 0, 1) := by decide +kernel
theorem dL_law_167 : decode cL_law 167 = .ok (.iload_n 3, 1) := by decide +kernel
theorem dL_law_168 : decode cL_law 168 = .ok (.iconst 1, 1) := by decide +kernel
theorem dL_law_169 : decode cL_law 169 = .ok (.iadd, 1) := by decide +kernel
theorem dL_law_170 : decode cL_law 170 = .ok (.iaload, 1) := by decide +kernel
theorem dL_law_171 : decode cL_law 171 = .ok (.invokevirtual 26, 3) := by decide +kernel
theorem dL_law_174 : decode cL_law 174 = .ok (.if_icmp .eq 510, 3) := by decide +kernel
theorem dL_law_177 : decode cL_law 177 = .ok (.iconst 0, 1) := by decide +kernel
theorem dL_law_178 : decode cL_law 178 = .ok (.ireturn, 1) := by decide +kernel
theorem dL_law_179 : decode cL_law 179 = .ok (.aload_n 1, 1) := by decide +kernel
theorem dL_law_180 : decode cL_law 180 = .ok (.invokevirtual 27, 3) := by decide +kernel
theorem dL_law_183 : decode cL_law 183 = .ok (.aload_n 2, 1) := by decide +kernel
theorem dL_law_184 : decode cL_law 184 = .ok (.invokevirtual 30, 3) := by decide +kernel
theorem dL_law_187 : decode cL_law 187 = .ok (.if_icmp .eq 497, 3) := by decide +kernel
theorem dL_law_190 : decode cL_law 190 = .ok (.iconst 0, 1) := by decide +kernel
theorem dL_law_191 : decode cL_law 191 = .ok (.ireturn, 1) := by decide +kernel
theorem dL_law_192 : decode cL_law 192 = .ok (.aload_n 1, 1) := by decide +kernel
theorem dL_law_193 : decode cL_law 193 = .ok (.invokevirtual 31, 3) := by decide +kernel
theorem dL_law_196 : decode cL_law 196 = .ok (.aload_n 2, 1) := by decide +kernel
theorem dL_law_197 : decode cL_law 197 = .ok (.invokevirtual 34, 3) := by decide +kernel
theorem dL_law_200 : decode cL_law 200 = .ok (.if_icmp .eq 484, 3) := by decide +kernel
theorem dL_law_203 : decode cL_law 203 = .ok (.iconst 0, 1) := by decide +kernel
theorem dL_law_204 : decode cL_law 204 = .ok (.ireturn, 1) := by decide +kernel
theorem dL_law_205 : decode cL_law 205 = .ok (.aload_n 1, 1) := by decide +kernel
theorem dL_law_206 : decode cL_law 206 = .ok (.aload_n 0, 1) := by decide +kernel
theorem dL_law_207 : decode cL_law 207 = .ok (.iload_n 3, 1) := by decide +kernel
theorem dL_law_208 : decode cL_law 208 = .ok (.iconst 1, 1) := by decide +kernel
theorem dL_law_209 : decode cL_law 209 = .ok (.iadd, 1) := by decide +kernel
theorem dL_law_210 : decode cL_law 210 = .ok (.iaload, 1) := by decide +kernel
theorem dL_law_211 : decode cL_law 211 = .ok (.aload_n 0, 1) := by decide +kernel
theorem dL_law_212 : decode cL_law 212 = .ok (.iload_n 3, 1) := by decide +kernel
theorem dL_law_213 : decode cL_law 213 = .ok (.iconst 2, 1) := by decide +kernel
theorem dL_law_214 : decode cL_law 214 = .ok (.iadd, 1) := by decide +kernel
theorem dL_law_215 : decode cL_law 215 = .ok (.iaload, 1) := by decide +kernel
theorem dL_law_216 : decode cL_law 216 = .ok (.invokevirtual 35, 3) := by decide +kernel
theorem dL_law_219 : decode cL_law 219 = .ok (.aload_n 2, 1) := by decide +kernel
theorem dL_law_220 : decode cL_law 220 = .ok (.aload_n 0, 1) := by decide +kernel
theorem dL_law_221 : decode cL_law 221 = .ok (.iload_n 3, 1) := by decide +kernel
theorem dL_law_222 : decode cL_law 222 = .ok (.iconst 1, 1) := by decide +kernel
theorem dL_law_223 : decode cL_law 223 = .ok (.iadd, 1) := by decide +kernel
theorem dL_law_224 : decode cL_law 224 = .ok (.iaload, 1) := by decide +kernel
theorem dL_law_225 : decode cL_law 225 = .ok (.aload_n 0, 1) := by decide +kernel
theorem dL_law_226 : decode cL_law 226 = .ok (.iload_n 3, 1) := by decide +kernel
theorem dL_law_227 : decode cL_law 227 = .ok (.iconst 2, 1) := by decide +kernel
theorem dL_law_228 : decode cL_law 228 = .ok (.iadd, 1) := by decide +kernel
theorem dL_law_229 : decode cL_law 229 = .ok (.iaload, 1) := by decide +kernel
theorem dL_law_230 : decode cL_law 230 = .ok (.invokevirtual 39, 3) := by decide +kernel
theorem dL_law_233 : decode cL_law 233 = .ok (.if_icmp .eq 451, 3) := by decide +kernel
theorem dL_law_236 : decode cL_law 236 = .ok (.iconst 0, 1) := by decide +kernel
theorem dL_law_237 : decode cL_law 237 = .ok (.ireturn, 1) := by decide +kernel
theorem dL_law_238 : decode cL_law 238 = .ok (.aload_n 1, 1) := by decide +kernel
theorem dL_law_239 : decode cL_law 239 = .ok (.invokevirtual 40, 3) := by decide +kernel
theorem dL_law_242 : decode cL_law 242 = .ok (.aload_n 2, 1) := by decide +kernel
theorem dL_law_243 : decode cL_law 243 = .ok (.invokevirtual 43, 3) := by decide +kernel
theorem dL_law_246 : decode cL_law 246 = .ok (.if_icmp .eq 438, 3) := by decide +kernel
theorem dL_law_249 : decode cL_law 249 = .ok (.iconst 0, 1) := by decide +kernel
theorem dL_law_250 : decode cL_law 250 = .ok (.ireturn, 1) := by decide +kernel
theorem dL_law_251 : decode cL_law 251 = .ok (.aload_n 1, 1) := by decide +kernel
theorem dL_law_252 : decode cL_law 252 = .ok (.aload_n 0, 1) := by decide +kernel
theorem dL_law_253 : decode cL_law 253 = .ok (.iload_n 3, 1) := by decide +kernel
theorem dL_law_254 : decode cL_law 254 = .ok (.iconst 1, 1) := by decide +kernel
theorem dL_law_255 : decode cL_law 255 = .ok (.iadd, 1) := by decide +kernel
theorem dL_law_256 : decode cL_law 256 = .ok (.iaload, 1) := by decide +kernel
theorem dL_law_257 : decode cL_law 257 = .ok (.invokevirtual 44, 3) := by decide +kernel
theorem dL_law_260 : decode cL_law 260 = .ok (.aload_n 2, 1) := by decide +kernel
theorem dL_law_261 : decode cL_law 261 = .ok (.aload_n 0, 1) := by decide +kernel
theorem dL_law_262 : decode cL_law 262 = .ok (.iload_n 3, 1) := by decide +kernel
theorem dL_law_263 : decode cL_law 263 = .ok (.iconst 1, 1) := by decide +kernel
theorem dL_law_264 : decode cL_law 264 = .ok (.iadd, 1) := by decide +kernel
theorem dL_law_265 : decode cL_law 265 = .ok (.iaload, 1) := by decide +kernel
theorem dL_law_266 : decode cL_law 266 = .ok (.invokevirtual 47, 3) := by decide +kernel
theorem dL_law_269 : decode cL_law 269 = .ok (.if_icmp .eq 415, 3) := by decide +kernel
theorem dL_law_272 : decode cL_law 272 = .ok (.iconst 0, 1) := by decide +kernel
theorem dL_law_273 : decode cL_law 273 = .ok (.ireturn, 1) := by decide +kernel
theorem dL_law_274 : decode cL_law 274 = .ok (.aload_n 1, 1) := by decide +kernel
theorem dL_law_275 : decode cL_law 275 = .ok (.aload_n 0, 1) := by decide +kernel
theorem dL_law_276 : decode cL_law 276 = .ok (.iload_n 3, 1) := by decide +kernel
theorem dL_law_277 : decode cL_law 277 = .ok (.iconst 1, 1) := by decide +kernel
theorem dL_law_278 : decode cL_law 278 = .ok (.iadd, 1) := by decide +kernel
theorem dL_law_279 : decode cL_law 279 = .ok (.iaload, 1) := by decide +kernel
theorem dL_law_280 : decode cL_law 280 = .ok (.aload_n 0, 1) := by decide +kernel
theorem dL_law_281 : decode cL_law 281 = .ok (.iload_n 3, 1) := by decide +kernel
theorem dL_law_282 : decode cL_law 282 = .ok (.iconst 2, 1) := by decide +kernel
theorem dL_law_283 : decode cL_law 283 = .ok (.iadd, 1) := by decide +kernel
theorem dL_law_284 : decode cL_law 284 = .ok (.iaload, 1) := by decide +kernel
theorem dL_law_285 : decode cL_law 285 = .ok (.invokevirtual 48, 3) := by decide +kernel
theorem dL_law_288 : decode cL_law 288 = .ok (.aload_n 2, 1) := by decide +kernel
theorem dL_law_289 : decode cL_law 289 = .ok (.aload_n 0, 1) := by decide +kernel
theorem dL_law_290 : decode cL_law 290 = .ok (.iload_n 3, 1) := by decide +kernel
theorem dL_law_291 : decode cL_law 291 = .ok (.iconst 1, 1) := by decide +kernel
theorem dL_law_292 : decode cL_law 292 = .ok (.iadd, 1) := by decide +kernel
theorem dL_law_293 : decode cL_law 293 = .ok (.iaload, 1) := by decide +kernel
theorem dL_law_294 : decode cL_law 294 = .ok (.aload_n 0, 1) := by decide +kernel
theorem dL_law_295 : decode cL_law 295 = .ok (.iload_n 3, 1) := by decide +kernel
theorem dL_law_296 : decode cL_law 296 = .ok (.iconst 2, 1) := by decide +kernel
theorem dL_law_297 : decode cL_law 297 = .ok (.iadd, 1) := by decide +kernel
theorem dL_law_298 : decode cL_law 298 = .ok (.iaload, 1) := by decide +kernel
theorem dL_law_299 : decode cL_law 299 = .ok (.invokevirtual 51, 3) := by decide +kernel
theorem dL_law_302 : decode cL_law 302 = .ok (.if_icmp .eq 382, 3) := by decide +kernel
theorem dL_law_305 : decode cL_law 305 = .ok (.iconst 0, 1) := by decide +kernel
theorem dL_law_306 : decode cL_law 306 = .ok (.ireturn, 1) := by decide +kernel
theorem dL_law_307 : decode cL_law 307 = .ok (.aload_n 1, 1) := by decide +kernel
theorem dL_law_308 : decode cL_law 308 = .ok (.aload_n 0, 1) := by decide +kernel
theorem dL_law_309 : decode cL_law 309 = .ok (.iload_n 3, 1) := by decide +kernel
theorem dL_law_310 : decode cL_law 310 = .ok (.iconst 1, 1) := by decide +kernel
theorem dL_law_311 : decode cL_law 311 = .ok (.iadd, 1) := by decide +kernel
theorem dL_law_312 : decode cL_law 312 = .ok (.iaload, 1) := by decide +kernel
theorem dL_law_313 : decode cL_law 313 = .ok (.aload_n 0, 1) := by decide +kernel
theorem dL_law_314 : decode cL_law 314 = .ok (.iload_n 3, 1) := by decide +kernel
theorem dL_law_315 : decode cL_law 315 = .ok (.iconst 2, 1) := by decide +kernel
theorem dL_law_316 : decode cL_law 316 = .ok (.iadd, 1) := by decide +kernel
theorem dL_law_317 : decode cL_law 317 = .ok (.iaload, 1) := by decide +kernel
theorem dL_law_318 : decode cL_law 318 = .ok (.aload_n 0, 1) := by decide +kernel
theorem dL_law_319 : decode cL_law 319 = .ok (.iload_n 3, 1) := by decide +kernel
theorem dL_law_320 : decode cL_law 320 = .ok (.iconst 3, 1) := by decide +kernel
theorem dL_law_321 : decode cL_law 321 = .ok (.iadd, 1) := by decide +kernel
theorem dL_law_322 : decode cL_law 322 = .ok (.iaload, 1) := by decide +kernel
theorem dL_law_323 : decode cL_law 323 = .ok (.aload_n 0, 1) := by decide +kernel
theorem dL_law_324 : decode cL_law 324 = .ok (.iload_n 3, 1) := by decide +kernel
theorem dL_law_325 : decode cL_law 325 = .ok (.iconst 4, 1) := by decide +kernel
theorem dL_law_326 : decode cL_law 326 = .ok (.iadd, 1) := by decide +kernel
theorem dL_law_327 : decode cL_law 327 = .ok (.iaload, 1) := by decide +kernel
theorem dL_law_328 : decode cL_law 328 = .ok (.invokevirtual 52, 3) := by decide +kernel
theorem dL_law_331 : decode cL_law 331 = .ok (.aload_n 2, 1) := by decide +kernel
theorem dL_law_332 : decode cL_law 332 = .ok (.aload_n 0, 1) := by decide +kernel
theorem dL_law_333 : decode cL_law 333 = .ok (.iload_n 3, 1) := by decide +kernel
theorem dL_law_334 : decode cL_law 334 = .ok (.iconst 1, 1) := by decide +kernel
theorem dL_law_335 : decode cL_law 335 = .ok (.iadd, 1) := by decide +kernel
theorem dL_law_336 : decode cL_law 336 = .ok (.iaload, 1) := by decide +kernel
theorem dL_law_337 : decode cL_law 337 = .ok (.aload_n 0, 1) := by decide +kernel
theorem dL_law_338 : decode cL_law 338 = .ok (.iload_n 3, 1) := by decide +kernel
theorem dL_law_339 : decode cL_law 339 = .ok (.iconst 2, 1) := by decide +kernel
theorem dL_law_340 : decode cL_law 340 = .ok (.iadd, 1) := by decide +kernel
theorem dL_law_341 : decode cL_law 341 = .ok (.iaload, 1) := by decide +kernel
theorem dL_law_342 : decode cL_law 342 = .ok (.aload_n 0, 1) := by decide +kernel
theorem dL_law_343 : decode cL_law 343 = .ok (.iload_n 3, 1) := by decide +kernel
theorem dL_law_344 : decode cL_law 344 = .ok (.iconst 3, 1) := by decide +kernel
theorem dL_law_345 : decode cL_law 345 = .ok (.iadd, 1) := by decide +kernel
theorem dL_law_346 : decode cL_law 346 = .ok (.iaload, 1) := by decide +kernel
theorem dL_law_347 : decode cL_law 347 = .ok (.aload_n 0, 1) := by decide +kernel
theorem dL_law_348 : decode cL_law 348 = .ok (.iload_n 3, 1) := by decide +kernel
theorem dL_law_349 : decode cL_law 349 = .ok (.iconst 4, 1) := by decide +kernel
theorem dL_law_350 : decode cL_law 350 = .ok (.iadd, 1) := by decide +kernel
theorem dL_law_351 : decode cL_law 351 = .ok (.iaload, 1) := by decide +kernel
theorem dL_law_352 : decode cL_law 352 = .ok (.invokevirtual 56, 3) := by decide +kernel
theorem dL_law_355 : decode cL_law 355 = .ok (.if_icmp .eq 329, 3) := by decide +kernel
theorem dL_law_358 : decode cL_law 358 = .ok (.iconst 0, 1) := by decide +kernel
theorem dL_law_359 : decode cL_law 359 = .ok (.ireturn, 1) := by decide +kernel
theorem dL_law_360 : decode cL_law 360 = .ok (.aload_n 1, 1) := by decide +kernel
theorem dL_law_361 : decode cL_law 361 = .ok (.aload_n 0, 1) := by decide +kernel
theorem dL_law_362 : decode cL_law 362 = .ok (.iload_n 3, 1) := by decide +kernel
theorem dL_law_363 : decode cL_law 363 = .ok (.iconst 1, 1) := by decide +kernel
theorem dL_law_364 : decode cL_law 364 = .ok (.iadd, 1) := by decide +kernel
theorem dL_law_365 : decode cL_law 365 = .ok (.iaload, 1) := by decide +kernel
theorem dL_law_366 : decode cL_law 366 = .ok (.aload_n 0, 1) := by decide +kernel
theorem dL_law_367 : decode cL_law 367 = .ok (.iload_n 3, 1) := by decide +kernel
theorem dL_law_368 : decode cL_law 368 = .ok (.iconst 2, 1) := by decide +kernel
theorem dL_law_369 : decode cL_law 369 = .ok (.iadd, 1) := by decide +kernel
theorem dL_law_370 : decode cL_law 370 = .ok (.iaload, 1) := by decide +kernel
theorem dL_law_371 : decode cL_law 371 = .ok (.aload_n 0, 1) := by decide +kernel
theorem dL_law_372 : decode cL_law 372 = .ok (.iload_n 3, 1) := by decide +kernel
theorem dL_law_373 : decode cL_law 373 = .ok (.iconst 3, 1) := by decide +kernel
theorem dL_law_374 : decode cL_law 374 = .ok (.iadd, 1) := by decide +kernel
theorem dL_law_375 : decode cL_law 375 = .ok (.iaload, 1) := by decide +kernel
theorem dL_law_376 : decode cL_law 376 = .ok (.aload_n 0, 1) := by decide +kernel
theorem dL_law_377 : decode cL_law 377 = .ok (.iload_n 3, 1) := by decide +kernel
theorem dL_law_378 : decode cL_law 378 = .ok (.iconst 4, 1) := by decide +kernel
theorem dL_law_379 : decode cL_law 379 = .ok (.iadd, 1) := by decide +kernel
theorem dL_law_380 : decode cL_law 380 = .ok (.iaload, 1) := by decide +kernel
theorem dL_law_381 : decode cL_law 381 = .ok (.invokevirtual 57, 3) := by decide +kernel
theorem dL_law_384 : decode cL_law 384 = .ok (.aload_n 2, 1) := by decide +kernel
theorem dL_law_385 : decode cL_law 385 = .ok (.aload_n 0, 1) := by decide +kernel
theorem dL_law_386 : decode cL_law 386 = .ok (.iload_n 3, 1) := by decide +kernel
theorem dL_law_387 : decode cL_law 387 = .ok (.iconst 1, 1) := by decide +kernel
theorem dL_law_388 : decode cL_law 388 = .ok (.iadd, 1) := by decide +kernel
theorem dL_law_389 : decode cL_law 389 = .ok (.iaload, 1) := by decide +kernel
theorem dL_law_390 : decode cL_law 390 = .ok (.aload_n 0, 1) := by decide +kernel
theorem dL_law_391 : decode cL_law 391 = .ok (.iload_n 3, 1) := by decide +kernel
theorem dL_law_392 : decode cL_law 392 = .ok (.iconst 2, 1) := by decide +kernel
theorem dL_law_393 : decode cL_law 393 = .ok (.iadd, 1) := by decide +kernel
theorem dL_law_394 : decode cL_law 394 = .ok (.iaload, 1) := by decide +kernel
theorem dL_law_395 : decode cL_law 395 = .ok (.aload_n 0, 1) := by decide +kernel
theorem dL_law_396 : decode cL_law 396 = .ok (.iload_n 3, 1) := by decide +kernel
theorem dL_law_397 : decode cL_law 397 = .ok (.iconst 3, 1) := by decide +kernel
theorem dL_law_398 : decode cL_law 398 = .ok (.iadd, 1) := by decide +kernel
theorem dL_law_399 : decode cL_law 399 = .ok (.iaload, 1) := by decide +kernel
theorem dL_law_400 : decode cL_law 400 = .ok (.aload_n 0, 1) := by decide +kernel
theorem dL_law_401 : decode cL_law 401 = .ok (.iload_n 3, 1) := by decide +kernel
theorem dL_law_402 : decode cL_law 402 = .ok (.iconst 4, 1) := by decide +kernel
theorem dL_law_403 : decode cL_law 403 = .ok (.iadd, 1) := by decide +kernel
theorem dL_law_404 : decode cL_law 404 = .ok (.iaload, 1) := by decide +kernel
theorem dL_law_405 : decode cL_law 405 = .ok (.invokevirtual 60, 3) := by decide +kernel
theorem dL_law_408 : decode cL_law 408 = .ok (.if_icmp .eq 276, 3) := by decide +kernel
theorem dL_law_411 : decode cL_law 411 = .ok (.iconst 0, 1) := by decide +kernel
theorem dL_law_412 : decode cL_law 412 = .ok (.ireturn, 1) := by decide +kernel
theorem dL_law_413 : decode cL_law 413 = .ok (.aload_n 1, 1) := by decide +kernel
theorem dL_law_414 : decode cL_law 414 = .ok (.aload_n 0, 1) := by decide +kernel
theorem dL_law_415 : decode cL_law 415 = .ok (.iload_n 3, 1) := by decide +kernel
theorem dL_law_416 : decode cL_law 416 = .ok (.iconst 1, 1) := by decide +kernel
theorem dL_law_417 : decode cL_law 417 = .ok (.iadd, 1) := by decide +kernel
theorem dL_law_418 : decode cL_law 418 = .ok (.iaload, 1) := by decide +kernel
theorem dL_law_419 : decode cL_law 419 = .ok (.aload_n 0, 1) := by decide +kernel
theorem dL_law_420 : decode cL_law 420 = .ok (.iload_n 3, 1) := by decide +kernel
theorem dL_law_421 : decode cL_law 421 = .ok (.iconst 2, 1) := by decide +kernel
theorem dL_law_422 : decode cL_law 422 = .ok (.iadd, 1) := by decide +kernel
theorem dL_law_423 : decode cL_law 423 = .ok (.iaload, 1) := by decide +kernel
theorem dL_law_424 : decode cL_law 424 = .ok (.aload_n 0, 1) := by decide +kernel
theorem dL_law_425 : decode cL_law 425 = .ok (.iload_n 3, 1) := by decide +kernel
theorem dL_law_426 : decode cL_law 426 = .ok (.iconst 3, 1) := by decide +kernel
theorem dL_law_427 : decode cL_law 427 = .ok (.iadd, 1) := by decide +kernel
theorem dL_law_428 : decode cL_law 428 = .ok (.iaload, 1) := by decide +kernel
theorem dL_law_429 : decode cL_law 429 = .ok (.aload_n 0, 1) := by decide +kernel
theorem dL_law_430 : decode cL_law 430 = .ok (.iload_n 3, 1) := by decide +kernel
theorem dL_law_431 : decode cL_law 431 = .ok (.iconst 4, 1) := by decide +kernel
theorem dL_law_432 : decode cL_law 432 = .ok (.iadd, 1) := by decide +kernel
theorem dL_law_433 : decode cL_law 433 = .ok (.iaload, 1) := by decide +kernel
theorem dL_law_434 : decode cL_law 434 = .ok (.aload_n 0, 1) := by decide +kernel
theorem dL_law_435 : decode cL_law 435 = .ok (.iload_n 3, 1) := by decide +kernel
theorem dL_law_436 : decode cL_law 436 = .ok (.iconst 5, 1) := by decide +kernel
theorem dL_law_437 : decode cL_law 437 = .ok (.iadd, 1) := by decide +kernel
theorem dL_law_438 : decode cL_law 438 = .ok (.iaload, 1) := by decide +kernel
theorem dL_law_439 : decode cL_law 439 = .ok (.invokevirtual 61, 3) := by decide +kernel
theorem dL_law_442 : decode cL_law 442 = .ok (.aload_n 2, 1) := by decide +kernel
theorem dL_law_443 : decode cL_law 443 = .ok (.aload_n 0, 1) := by decide +kernel
theorem dL_law_444 : decode cL_law 444 = .ok (.iload_n 3, 1) := by decide +kernel
theorem dL_law_445 : decode cL_law 445 = .ok (.iconst 1, 1) := by decide +kernel
theorem dL_law_446 : decode cL_law 446 = .ok (.iadd, 1) := by decide +kernel
theorem dL_law_447 : decode cL_law 447 = .ok (.iaload, 1) := by decide +kernel
theorem dL_law_448 : decode cL_law 448 = .ok (.aload_n 0, 1) := by decide +kernel
theorem dL_law_449 : decode cL_law 449 = .ok (.iload_n 3, 1) := by decide +kernel
theorem dL_law_450 : decode cL_law 450 = .ok (.iconst 2, 1) := by decide +kernel
theorem dL_law_451 : decode cL_law 451 = .ok (.iadd, 1) := by decide +kernel
theorem dL_law_452 : decode cL_law 452 = .ok (.iaload, 1) := by decide +kernel
theorem dL_law_453 : decode cL_law 453 = .ok (.aload_n 0, 1) := by decide +kernel
theorem dL_law_454 : decode cL_law 454 = .ok (.iload_n 3, 1) := by decide +kernel
theorem dL_law_455 : decode cL_law 455 = .ok (.iconst 3, 1) := by decide +kernel
theorem dL_law_456 : decode cL_law 456 = .ok (.iadd, 1) := by decide +kernel
theorem dL_law_457 : decode cL_law 457 = .ok (.iaload, 1) := by decide +kernel
theorem dL_law_458 : decode cL_law 458 = .ok (.aload_n 0, 1) := by decide +kernel
theorem dL_law_459 : decode cL_law 459 = .ok (.iload_n 3, 1) := by decide +kernel
theorem dL_law_460 : decode cL_law 460 = .ok (.iconst 4, 1) := by decide +kernel
theorem dL_law_461 : decode cL_law 461 = .ok (.iadd, 1) := by decide +kernel
theorem dL_law_462 : decode cL_law 462 = .ok (.iaload, 1) := by decide +kernel
theorem dL_law_463 : decode cL_law 463 = .ok (.aload_n 0, 1) := by decide +kernel
theorem dL_law_464 : decode cL_law 464 = .ok (.iload_n 3, 1) := by decide +kernel
theorem dL_law_465 : decode cL_law 465 = .ok (.iconst 5, 1) := by decide +kernel
theorem dL_law_466 : decode cL_law 466 = .ok (.iadd, 1) := by decide +kernel
theorem dL_law_467 : decode cL_law 467 = .ok (.iaload, 1) := by decide +kernel
theorem dL_law_468 : decode cL_law 468 = .ok (.invokevirtual 65, 3) := by decide +kernel
theorem dL_law_471 : decode cL_law 471 = .ok (.if_icmp .eq 213, 3) := by decide +kernel
theorem dL_law_474 : decode cL_law 474 = .ok (.iconst 0, 1) := by decide +kernel
theorem dL_law_475 : decode cL_law 475 = .ok (.ireturn, 1) := by decide +kernel
theorem dL_law_476 : decode cL_law 476 = .ok (.aload_n 1, 1) := by decide +kernel
theorem dL_law_477 : decode cL_law 477 = .ok (.aload_n 0, 1) := by decide +kernel
theorem dL_law_478 : decode cL_law 478 = .ok (.iload_n 3, 1) := by decide +kernel
theorem dL_law_479 : decode cL_law 479 = .ok (.iconst 1, 1) := by decide +kernel
theorem dL_law_480 : decode cL_law 480 = .ok (.iadd, 1) := by decide +kernel
theorem dL_law_481 : decode cL_law 481 = .ok (.iaload, 1) := by decide +kernel
theorem dL_law_482 : decode cL_law 482 = .ok (.aload_n 0, 1) := by decide +kernel
theorem dL_law_483 : decode cL_law 483 = .ok (.iload_n 3, 1) := by decide +kernel
theorem dL_law_484 : decode cL_law 484 = .ok (.iconst 2, 1) := by decide +kernel
theorem dL_law_485 : decode cL_law 485 = .ok (.iadd, 1) := by decide +kernel
theorem dL_law_486 : decode cL_law 486 = .ok (.iaload, 1) := by decide +kernel
theorem dL_law_487 : decode cL_law 487 = .ok (.aload_n 0, 1) := by decide +kernel
theorem dL_law_488 : decode cL_law 488 = .ok (.iload_n 3, 1) := by decide +kernel
theorem dL_law_489 : decode cL_law 489 = .ok (.iconst 3, 1) := by decide +kernel
theorem dL_law_490 : decode cL_law 490 = .ok (.iadd, 1) := by decide +kernel
theorem dL_law_491 : decode cL_law 491 = .ok (.iaload, 1) := by decide +kernel
theorem dL_law_492 : decode cL_law 492 = .ok (.invokevirtual 66, 3) := by decide +kernel
theorem dL_law_495 : decode cL_law 495 = .ok (.aload_n 2, 1) := by decide +kernel
theorem dL_law_496 : decode cL_law 496 = .ok (.aload_n 0, 1) := by decide +kernel
theorem dL_law_497 : decode cL_law 497 = .ok (.iload_n 3, 1) := by decide +kernel
theorem dL_law_498 : decode cL_law 498 = .ok (.iconst 1, 1) := by decide +kernel
theorem dL_law_499 : decode cL_law 499 = .ok (.iadd, 1) := by decide +kernel
theorem dL_law_500 : decode cL_law 500 = .ok (.iaload, 1) := by decide +kernel
theorem dL_law_501 : decode cL_law 501 = .ok (.aload_n 0, 1) := by decide +kernel
theorem dL_law_502 : decode cL_law 502 = .ok (.iload_n 3, 1) := by decide +kernel
theorem dL_law_503 : decode cL_law 503 = .ok (.iconst 2, 1) := by decide +kernel
theorem dL_law_504 : decode cL_law 504 = .ok (.iadd, 1) := by decide +kernel
theorem dL_law_505 : decode cL_law 505 = .ok (.iaload, 1) := by decide +kernel
theorem dL_law_506 : decode cL_law 506 = .ok (.aload_n 0, 1) := by decide +kernel
theorem dL_law_507 : decode cL_law 507 = .ok (.iload_n 3, 1) := by decide +kernel
theorem dL_law_508 : decode cL_law 508 = .ok (.iconst 3, 1) := by decide +kernel
theorem dL_law_509 : decode cL_law 509 = .ok (.iadd, 1) := by decide +kernel
theorem dL_law_510 : decode cL_law 510 = .ok (.iaload, 1) := by decide +kernel
theorem dL_law_511 : decode cL_law 511 = .ok (.invokevirtual 70, 3) := by decide +kernel
theorem dL_law_514 : decode cL_law 514 = .ok (.if_icmp .eq 170, 3) := by decide +kernel
theorem dL_law_517 : decode cL_law 517 = .ok (.iconst 0, 1) := by decide +kernel
theorem dL_law_518 : decode cL_law 518 = .ok (.ireturn, 1) := by decide +kernel
theorem dL_law_519 : decode cL_law 519 = .ok (.aload_n 1, 1) := by decide +kernel
theorem dL_law_520 : decode cL_law 520 = .ok (.aload_n 0, 1) := by decide +kernel
theorem dL_law_521 : decode cL_law 521 = .ok (.iload_n 3, 1) := by decide +kernel
theorem dL_law_522 : decode cL_law 522 = .ok (.iconst 1, 1) := by decide +kernel
theorem dL_law_523 : decode cL_law 523 = .ok (.iadd, 1) := by decide +kernel
theorem dL_law_524 : decode cL_law 524 = .ok (.iaload, 1) := by decide +kernel
theorem dL_law_525 : decode cL_law 525 = .ok (.aload_n 0, 1) := by decide +kernel
theorem dL_law_526 : decode cL_law 526 = .ok (.iload_n 3, 1) := by decide +kernel
theorem dL_law_527 : decode cL_law 527 = .ok (.iconst 2, 1) := by decide +kernel
theorem dL_law_528 : decode cL_law 528 = .ok (.iadd, 1) := by decide +kernel
theorem dL_law_529 : decode cL_law 529 = .ok (.iaload, 1) := by decide +kernel
theorem dL_law_530 : decode cL_law 530 = .ok (.aload_n 0, 1) := by decide +kernel
theorem dL_law_531 : decode cL_law 531 = .ok (.iload_n 3, 1) := by decide +kernel
theorem dL_law_532 : decode cL_law 532 = .ok (.iconst 3, 1) := by decide +kernel
theorem dL_law_533 : decode cL_law 533 = .ok (.iadd, 1) := by decide +kernel
theorem dL_law_534 : decode cL_law 534 = .ok (.iaload, 1) := by decide +kernel
theorem dL_law_535 : decode cL_law 535 = .ok (.invokevirtual 71, 3) := by decide +kernel
theorem dL_law_538 : decode cL_law 538 = .ok (.aload_n 2, 1) := by decide +kernel
theorem dL_law_539 : decode cL_law 539 = .ok (.aload_n 0, 1) := by decide +kernel
theorem dL_law_540 : decode cL_law 540 = .ok (.iload_n 3, 1) := by decide +kernel
theorem dL_law_541 : decode cL_law 541 = .ok (.iconst 1, 1) := by decide +kernel
theorem dL_law_542 : decode cL_law 542 = .ok (.iadd, 1) := by decide +kernel
theorem dL_law_543 : decode cL_law 543 = .ok (.iaload, 1) := by decide +kernel
theorem dL_law_544 : decode cL_law 544 = .ok (.aload_n 0, 1) := by decide +kernel
theorem dL_law_545 : decode cL_law 545 = .ok (.iload_n 3, 1) := by decide +kernel
theorem dL_law_546 : decode cL_law 546 = .ok (.iconst 2, 1) := by decide +kernel
theorem dL_law_547 : decode cL_law 547 = .ok (.iadd, 1) := by decide +kernel
theorem dL_law_548 : decode cL_law 548 = .ok (.iaload, 1) := by decide +kernel
theorem dL_law_549 : decode cL_law 549 = .ok (.aload_n 0, 1) := by decide +kernel
theorem dL_law_550 : decode cL_law 550 = .ok (.iload_n 3, 1) := by decide +kernel
theorem dL_law_551 : decode cL_law 551 = .ok (.iconst 3, 1) := by decide +kernel
theorem dL_law_552 : decode cL_law 552 = .ok (.iadd, 1) := by decide +kernel
theorem dL_law_553 : decode cL_law 553 = .ok (.iaload, 1) := by decide +kernel
theorem dL_law_554 : decode cL_law 554 = .ok (.invokevirtual 74, 3) := by decide +kernel
theorem dL_law_557 : decode cL_law 557 = .ok (.if_icmp .eq 127, 3) := by decide +kernel
theorem dL_law_560 : decode cL_law 560 = .ok (.iconst 0, 1) := by decide +kernel
theorem dL_law_561 : decode cL_law 561 = .ok (.ireturn, 1) := by decide +kernel
theorem dL_law_562 : decode cL_law 562 = .ok (.aload_n 1, 1) := by decide +kernel
theorem dL_law_563 : decode cL_law 563 = .ok (.aload_n 0, 1) := by decide +kernel
theorem dL_law_564 : decode cL_law 564 = .ok (.iload_n 3, 1) := by decide +kernel
theorem dL_law_565 : decode cL_law 565 = .ok (.iconst 1, 1) := by decide +kernel
theorem dL_law_566 : decode cL_law 566 = .ok (.iadd, 1) := by decide +kernel
theorem dL_law_567 : decode cL_law 567 = .ok (.iaload, 1) := by decide +kernel
theorem dL_law_568 : decode cL_law 568 = .ok (.aload_n 0, 1) := by decide +kernel
theorem dL_law_569 : decode cL_law 569 = .ok (.iload_n 3, 1) := by decide +kernel
theorem dL_law_570 : decode cL_law 570 = .ok (.iconst 2, 1) := by decide +kernel
theorem dL_law_571 : decode cL_law 571 = .ok (.iadd, 1) := by decide +kernel
theorem dL_law_572 : decode cL_law 572 = .ok (.iaload, 1) := by decide +kernel
theorem dL_law_573 : decode cL_law 573 = .ok (.invokevirtual 75, 3) := by decide +kernel
theorem dL_law_576 : decode cL_law 576 = .ok (.aload_n 2, 1) := by decide +kernel
theorem dL_law_577 : decode cL_law 577 = .ok (.aload_n 0, 1) := by decide +kernel
theorem dL_law_578 : decode cL_law 578 = .ok (.iload_n 3, 1) := by decide +kernel
theorem dL_law_579 : decode cL_law 579 = .ok (.iconst 1, 1) := by decide +kernel
theorem dL_law_580 : decode cL_law 580 = .ok (.iadd, 1) := by decide +kernel
theorem dL_law_581 : decode cL_law 581 = .ok (.iaload, 1) := by decide +kernel
theorem dL_law_582 : decode cL_law 582 = .ok (.aload_n 0, 1) := by decide +kernel
theorem dL_law_583 : decode cL_law 583 = .ok (.iload_n 3, 1) := by decide +kernel
theorem dL_law_584 : decode cL_law 584 = .ok (.iconst 2, 1) := by decide +kernel
theorem dL_law_585 : decode cL_law 585 = .ok (.iadd, 1) := by decide +kernel
theorem dL_law_586 : decode cL_law 586 = .ok (.iaload, 1) := by decide +kernel
theorem dL_law_587 : decode cL_law 587 = .ok (.invokevirtual 78, 3) := by decide +kernel
theorem dL_law_590 : decode cL_law 590 = .ok (.if_icmp .eq 94, 3) := by decide +kernel
theorem dL_law_593 : decode cL_law 593 = .ok (.iconst 0, 1) := by decide +kernel
theorem dL_law_594 : decode cL_law 594 = .ok (.ireturn, 1) := by decide +kernel
theorem dL_law_595 : decode cL_law 595 = .ok (.aload_n 1, 1) := by decide +kernel
theorem dL_law_596 : decode cL_law 596 = .ok (.aload_n 0, 1) := by decide +kernel
theorem dL_law_597 : decode cL_law 597 = .ok (.iload_n 3, 1) := by decide +kernel
theorem dL_law_598 : decode cL_law 598 = .ok (.iconst 1, 1) := by decide +kernel
theorem dL_law_599 : decode cL_law 599 = .ok (.iadd, 1) := by decide +kernel
theorem dL_law_600 : decode cL_law 600 = .ok (.iaload, 1) := by decide +kernel
theorem dL_law_601 : decode cL_law 601 = .ok (.aload_n 0, 1) := by decide +kernel
theorem dL_law_602 : decode cL_law 602 = .ok (.iload_n 3, 1) := by decide +kernel
theorem dL_law_603 : decode cL_law 603 = .ok (.iconst 2, 1) := by decide +kernel
theorem dL_law_604 : decode cL_law 604 = .ok (.iadd, 1) := by decide +kernel
theorem dL_law_605 : decode cL_law 605 = .ok (.iaload, 1) := by decide +kernel
theorem dL_law_606 : decode cL_law 606 = .ok (.aload_n 0, 1) := by decide +kernel
theorem dL_law_607 : decode cL_law 607 = .ok (.iload_n 3, 1) := by decide +kernel
theorem dL_law_608 : decode cL_law 608 = .ok (.iconst 3, 1) := by decide +kernel
theorem dL_law_609 : decode cL_law 609 = .ok (.iadd, 1) := by decide +kernel
theorem dL_law_610 : decode cL_law 610 = .ok (.iaload, 1) := by decide +kernel
theorem dL_law_611 : decode cL_law 611 = .ok (.invokevirtual 79, 3) := by decide +kernel
theorem dL_law_614 : decode cL_law 614 = .ok (.aload_n 2, 1) := by decide +kernel
theorem dL_law_615 : decode cL_law 615 = .ok (.aload_n 0, 1) := by decide +kernel
theorem dL_law_616 : decode cL_law 616 = .ok (.iload_n 3, 1) := by decide +kernel
theorem dL_law_617 : decode cL_law 617 = .ok (.iconst 1, 1) := by decide +kernel
theorem dL_law_618 : decode cL_law 618 = .ok (.iadd, 1) := by decide +kernel
theorem dL_law_619 : decode cL_law 619 = .ok (.iaload, 1) := by decide +kernel
theorem dL_law_620 : decode cL_law 620 = .ok (.aload_n 0, 1) := by decide +kernel
theorem dL_law_621 : decode cL_law 621 = .ok (.iload_n 3, 1) := by decide +kernel
theorem dL_law_622 : decode cL_law 622 = .ok (.iconst 2, 1) := by decide +kernel
theorem dL_law_623 : decode cL_law 623 = .ok (.iadd, 1) := by decide +kernel
theorem dL_law_624 : decode cL_law 624 = .ok (.iaload, 1) := by decide +kernel
theorem dL_law_625 : decode cL_law 625 = .ok (.aload_n 0, 1) := by decide +kernel
theorem dL_law_626 : decode cL_law 626 = .ok (.iload_n 3, 1) := by decide +kernel
theorem dL_law_627 : decode cL_law 627 = .ok (.iconst 3, 1) := by decide +kernel
theorem dL_law_628 : decode cL_law 628 = .ok (.iadd, 1) := by decide +kernel
theorem dL_law_629 : decode cL_law 629 = .ok (.iaload, 1) := by decide +kernel
theorem dL_law_630 : decode cL_law 630 = .ok (.invokevirtual 82, 3) := by decide +kernel
theorem dL_law_633 : decode cL_law 633 = .ok (.if_icmp .eq 51, 3) := by decide +kernel
theorem dL_law_636 : decode cL_law 636 = .ok (.iconst 0, 1) := by decide +kernel
theorem dL_law_637 : decode cL_law 637 = .ok (.ireturn, 1) := by decide +kernel
theorem dL_law_638 : decode cL_law 638 = .ok (.aload_n 1, 1) := by decide +kernel
theorem dL_law_639 : decode cL_law 639 = .ok (.aload_n 0, 1) := by decide +kernel
theorem dL_law_640 : decode cL_law 640 = .ok (.iload_n 3, 1) := by decide +kernel
theorem dL_law_641 : decode cL_law 641 = .ok (.iconst 1, 1) := by decide +kernel
theorem dL_law_642 : decode cL_law 642 = .ok (.iadd, 1) := by decide +kernel
theorem dL_law_643 : decode cL_law 643 = .ok (.iaload, 1) := by decide +kernel
theorem dL_law_644 : decode cL_law 644 = .ok (.invokevirtual 83, 3) := by decide +kernel
theorem dL_law_647 : decode cL_law 647 = .ok (.aload_n 2, 1) := by decide +kernel
theorem dL_law_648 : decode cL_law 648 = .ok (.aload_n 0, 1) := by decide +kernel
theorem dL_law_649 : decode cL_law 649 = .ok (.iload_n 3, 1) := by decide +kernel
theorem dL_law_650 : decode cL_law 650 = .ok (.iconst 1, 1) := by decide +kernel
theorem dL_law_651 : decode cL_law 651 = .ok (.iadd, 1) := by decide +kernel
theorem dL_law_652 : decode cL_law 652 = .ok (.iaload, 1) := by decide +kernel
theorem dL_law_653 : decode cL_law 653 = .ok (.invokevirtual 86, 3) := by decide +kernel
theorem dL_law_656 : decode cL_law 656 = .ok (.if_icmp .eq 28, 3) := by decide +kernel
theorem dL_law_659 : decode cL_law 659 = .ok (.iconst 0, 1) := by decide +kernel
theorem dL_law_660 : decode cL_law 660 = .ok (.ireturn, 1) := by decide +kernel
theorem dL_law_661 : decode cL_law 661 = .ok (.aload_n 1, 1) := by decide +kernel
theorem dL_law_662 : decode cL_law 662 = .ok (.aload_n 0, 1) := by decide +kernel
theorem dL_law_663 : decode cL_law 663 = .ok (.iload_n 3, 1) := by decide +kernel
theorem dL_law_664 : decode cL_law 664 = .ok (.iconst 1, 1) := by decide +kernel
theorem dL_law_665 : decode cL_law 665 = .ok (.iadd, 1) := by decide +kernel
theorem dL_law_666 : decode cL_law 666 = .ok (.iaload, 1) := by decide +kernel
theorem dL_law_667 : decode cL_law 667 = .ok (.invokevirtual 87, 3) := by decide +kernel
theorem dL_law_670 : decode cL_law 670 = .ok (.aload_n 2, 1) := by decide +kernel
theorem dL_law_671 : decode cL_law 671 = .ok (.aload_n 0, 1) := by decide +kernel
theorem dL_law_672 : decode cL_law 672 = .ok (.iload_n 3, 1) := by decide +kernel
theorem dL_law_673 : decode cL_law 673 = .ok (.iconst 1, 1) := by decide +kernel
theorem dL_law_674 : decode cL_law 674 = .ok (.iadd, 1) := by decide +kernel
theorem dL_law_675 : decode cL_law 675 = .ok (.iaload, 1) := by decide +kernel
theorem dL_law_676 : decode cL_law 676 = .ok (.invokevirtual 90, 3) := by decide +kernel
theorem dL_law_679 : decode cL_law 679 = .ok (.if_icmp .eq 5, 3) := by decide +kernel
theorem dL_law_682 : decode cL_law 682 = .ok (.iconst 0, 1) := by decide +kernel
theorem dL_law_683 : decode cL_law 683 = .ok (.ireturn, 1) := by decide +kernel
theorem dL_law_684 : decode cL_law 684 = .ok (.iinc 3 6, 3) := by decide +kernel
theorem dL_law_687 : decode cL_law 687 = .ok (.goto (-669), 3) := by decide +kernel
theorem dL_law_690 : decode cL_law 690 = .ok (.iconst 1, 1) := by decide +kernel
theorem dL_law_691 : decode cL_law 691 = .ok (.ireturn, 1) := by decide +kernel
