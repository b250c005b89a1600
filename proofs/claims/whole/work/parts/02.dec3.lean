theorem dX8_clearText_7 : decode cX8_clearText 7 = .ok (.putfield 69, 3) := by decide +kernel
theorem dX8_clearText_10 : decode cX8_clearText 10 = .ok (.iload_n 1, 1) := by decide +kernel
theorem dX8_clearText_11 : decode cX8_clearText 11 = .ok (.ireturn, 1) := by decide +kernel
theorem dX8_here_0 : decode cX8_here 0 = .ok (.aload_n 0, 1) := by decide +kernel
theorem dX8_here_1 : decode cX8_here 1 = .ok (.getfield 72, 3) := by decide +kernel
theorem dX8_here_4 : decode cX8_here 4 = .ok (.aload_n 0, 1) := by decide +kernel
theorem dX8_here_5 : decode cX8_here 5 = .ok (.getfield 69, 3) := by decide +kernel
theorem dX8_here_8 : decode cX8_here 8 = .ok (.if_icmp .ge 30, 3) := by decide +kernel
theorem dX8_here_11 : decode cX8_here 11 = .ok (.aload_n 0, 1) := by decide +kernel
theorem dX8_here_12 : decode cX8_here 12 = .ok (.getfield 16, 3) := by decide +kernel
theorem dX8_here_15 : decode cX8_here 15 = .ok (.aload_n 0, 1) := by decide +kernel
theorem dX8_here_16 : decode cX8_here 16 = .ok (.getfield 72, 3) := by decide +kernel
theorem dX8_here_19 : decode cX8_here 19 = .ok (.iaload, 1) := by decide +kernel
theorem dX8_here_20 : decode cX8_here 20 = .ok (.bipush 32, 2) := by decide +kernel
theorem dX8_here_22 : decode cX8_here 22 = .ok (.if_icmp .ne 16, 3) := by decide +kernel
theorem dX8_here_25 : decode cX8_here 25 = .ok (.aload_n 0, 1) := by decide +kernel
theorem dX8_here_26 : decode cX8_here 26 = .ok (.dup, 1) := by decide +kernel
theorem dX8_here_27 : decode cX8_here 27 = .ok (.getfield 72, 3) := by decide +kernel
theorem dX8_here_30 : decode cX8_here 30 = .ok (.iconst 1, 1) := by decide +kernel
theorem dX8_here_31 : decode cX8_here 31 = .ok (.iadd, 1) := by decide +kernel
theorem dX8_here_32 : decode cX8_here 32 = .ok (.putfield 72, 3) := by decide +kernel
theorem dX8_here_35 : decode cX8_here 35 = .ok (.goto (-35), 3) := by decide +kernel
theorem dX8_here_38 : decode cX8_here 38 = .ok (.aload_n 0, 1) := by decide +kernel
theorem dX8_here_39 : decode cX8_here 39 = .ok (.getfield 72, 3) := by decide +kernel
theorem dX8_here_42 : decode cX8_here 42 = .ok (.aload_n 0, 1) := by decide +kernel
theorem dX8_here_43 : decode cX8_here 43 = .ok (.getfield 69, 3) := by decide +kernel
theorem dX8_here_46 : decode cX8_here 46 = .ok (.if_icmp .ge 15, 3) := by decide +kernel
theorem dX8_here_49 : decode cX8_here 49 = .ok (.aload_n 0, 1) := by decide +kernel
theorem dX8_here_50 : decode cX8_here 50 = .ok (.getfield 16, 3) := by decide +kernel
theorem dX8_here_53 : decode cX8_here 53 = .ok (.aload_n 0, 1) := by decide +kernel
theorem dX8_here_54 : decode cX8_here 54 = .ok (.getfield 72, 3) := by decide +kernel
theorem dX8_here_57 : decode cX8_here 57 = .ok (.iaload, 1) := by decide +kernel
theorem dX8_here_58 : decode cX8_here 58 = .ok (.goto 4, 3) := by decide +kernel
theorem dX8_here_61 : decode cX8_here 61 = .ok (.iconst 0, 1) := by decide +kernel
theorem dX8_here_62 : decode cX8_here 62 = .ok (.ireturn, 1) := by decide +kernel
theorem dX8_passes_0 : decode cX8_passes 0 = .ok (.aload_n 0, 1) := by decide +kernel
theorem dX8_passes_1 : decode cX8_passes 1 = .ok (.invokevirtual 75, 3) := by decide +kernel
theorem dX8_passes_4 : decode cX8_passes 4 = .ok (.iload_n 1, 1) := by decide +kernel
theorem dX8_passes_5 : decode cX8_passes 5 = .ok (.if_icmp .ne 7, 3) := by decide +kernel
theorem dX8_passes_8 : decode cX8_passes 8 = .ok (.iconst 1, 1) := by decide +kernel
theorem dX8_passes_9 : decode cX8_passes 9 = .ok (.goto 4, 3) := by decide +kernel
theorem dX8_passes_12 : decode cX8_passes 12 = .ok (.iconst 0, 1) := by decide +kernel
theorem dX8_passes_13 : decode cX8_passes 13 = .ok (.istore_n 2, 1) := by decide +kernel
theorem dX8_passes_14 : decode cX8_passes 14 = .ok (.aload_n 0, 1) := by decide +kernel
theorem dX8_passes_15 : decode cX8_passes 15 = .ok (.dup, 1) := by decide +kernel
theorem dX8_passes_16 : decode cX8_passes 16 = .ok (.getfield 72, 3) := by decide +kernel
theorem dX8_passes_19 : decode cX8_passes 19 = .ok (.iload_n 2, 1) := by decide +kernel
theorem dX8_passes_20 : decode cX8_passes 20 = .ok (.ifCond .eq 7, 3) := by decide +kernel
theorem dX8_passes_23 : decode cX8_passes 23 = .ok (.iconst 1, 1) := by decide +kernel
theorem dX8_passes_24 : decode cX8_passes 24 = .ok (.goto 4, 3) := by decide +kernel
theorem dX8_passes_27 : decode cX8_passes 27 = .ok (.iconst 0, 1) := by decide +kernel
theorem dX8_passes_28 : decode cX8_passes 28 = .ok (.iadd, 1) := by decide +kernel
theorem dX8_passes_29 : decode cX8_passes 29 = .ok (.putfield 72, 3) := by decide +kernel
theorem dX8_passes_32 : decode cX8_passes 32 = .ok (.iload_n 2, 1) := by decide +kernel
theorem dX8_passes_33 : decode cX8_passes 33 = .ok (.ireturn, 1) := by decide +kernel
theorem dX8_isLetter_0 : decode cX8_isLetter 0 = .ok (.iload_n 0, 1) := by decide +kernel
theorem dX8_isLetter_1 : decode cX8_isLetter 1 = .ok (.bipush 97, 2) := by decide +kernel
theorem dX8_isLetter_3 : decode cX8_isLetter 3 = .ok (.bipush 102, 2) := by decide +kernel
theorem dX8_isLetter_5 : decode cX8_isLetter 5 = .ok (.invokestatic 61, 3) := by decide +kernel
theorem dX8_isLetter_8 : decode cX8_isLetter 8 = .ok (.ireturn, 1) := by decide +kernel
theorem dX8_readsCell_0 : decode cX8_readsCell 0 = .ok (.aload_n 0, 1) := by decide +kernel
theorem dX8_readsCell_1 : decode cX8_readsCell 1 = .ok (.invokevirtual 75, 3) := by decide +kernel
theorem dX8_readsCell_4 : decode cX8_readsCell 4 = .ok (.invokestatic 79, 3) := by decide +kernel
theorem dX8_readsCell_7 : decode cX8_readsCell 7 = .ok (.istore_n 2, 1) := by decide +kernel
theorem dX8_readsCell_8 : decode cX8_readsCell 8 = .ok (.iload_n 2, 1) := by decide +kernel
theorem dX8_readsCell_9 : decode cX8_readsCell 9 = .ok (.ifCond .eq 31, 3) := by decide +kernel
theorem dX8_readsCell_12 : decode cX8_readsCell 12 = .ok (.aload_n 0, 1) := by decide +kernel
theorem dX8_readsCell_13 : decode cX8_readsCell 13 = .ok (.iload_n 1, 1) := by decide +kernel
theorem dX8_readsCell_14 : decode cX8_readsCell 14 = .ok (.iconst 1, 1) := by decide +kernel
theorem dX8_readsCell_15 : decode cX8_readsCell 15 = .ok (.aload_n 0, 1) := by decide +kernel
theorem dX8_readsCell_16 : decode cX8_readsCell 16 = .ok (.getfield 16, 3) := by decide +kernel
theorem dX8_readsCell_19 : decode cX8_readsCell 19 = .ok (.aload_n 0, 1) := by decide +kernel
theorem dX8_readsCell_20 : decode cX8_readsCell 20 = .ok (.getfield 72, 3) := by decide +kernel
theorem dX8_readsCell_23 : decode cX8_readsCell 23 = .ok (.iaload, 1) := by decide +kernel
theorem dX8_readsCell_24 : decode cX8_readsCell 24 = .ok (.bipush 97, 2) := by decide +kernel
theorem dX8_readsCell_26 : decode cX8_readsCell 26 = .ok (.isub, 1) := by decide +kernel
theorem dX8_readsCell_27 : decode cX8_readsCell 27 = .ok (.invokevirtual 83, 3) := by decide +kernel
theorem dX8_readsCell_30 : decode cX8_readsCell 30 = .ok (.aload_n 0, 1) := by decide +kernel
theorem dX8_readsCell_31 : decode cX8_readsCell 31 = .ok (.dup, 1) := by decide +kernel
theorem dX8_readsCell_32 : decode cX8_readsCell 32 = .ok (.getfield 72, 3) := by decide +kernel
theorem dX8_readsCell_35 : decode cX8_readsCell 35 = .ok (.iconst 1, 1) := by decide +kernel
theorem dX8_readsCell_36 : decode cX8_readsCell 36 = .ok (.iadd, 1) := by decide +kernel
theorem dX8_readsCell_37 : decode cX8_readsCell 37 = .ok (.putfield 72, 3) := by decide +kernel
theorem dX8_readsCell_40 : decode cX8_readsCell 40 = .ok (.iload_n 2, 1) := by decide +kernel
theorem dX8_readsCell_41 : decode cX8_readsCell 41 = .ok (.ireturn, 1) := by decide +kernel
theorem dX8_readsTerm_0 : decode cX8_readsTerm 0 = .ok (.aload_n 0, 1) := by decide +kernel
theorem dX8_readsTerm_1 : decode cX8_readsTerm 1 = .ok (.invokevirtual 75, 3) := by decide +kernel
theorem dX8_readsTerm_4 : decode cX8_readsTerm 4 = .ok (.istore_n 3, 1) := by decide +kernel
theorem dX8_readsTerm_5 : decode cX8_readsTerm 5 = .ok (.iload_n 3, 1) := by decide +kernel
theorem dX8_readsTerm_6 : decode cX8_readsTerm 6 = .ok (.invokestatic 79, 3) := by decide +kernel
theorem dX8_readsTerm_9 : decode cX8_readsTerm 9 = .ok (.ifCond .eq 25, 3) := by decide +kernel
theorem dX8_readsTerm_12 : decode cX8_readsTerm 12 = .ok (.aload_n 0, 1) := by decide +kernel
theorem dX8_readsTerm_13 : decode cX8_readsTerm 13 = .ok (.iload_n 1, 1) := by decide +kernel
theorem dX8_readsTerm_14 : decode cX8_readsTerm 14 = .ok (.iload_n 2, 1) := by decide +kernel
theorem dX8_readsTerm_15 : decode cX8_readsTerm 15 = .ok (.iload_n 3, 1) := by decide +kernel
theorem dX8_readsTerm_16 : decode cX8_readsTerm 16 = .ok (.bipush 97, 2) := by decide +kernel
theorem dX8_readsTerm_18 : decode cX8_readsTerm 18 = .ok (.isub, 1) := by decide +kernel
theorem dX8_readsTerm_19 : decode cX8_readsTerm 19 = .ok (.invokevirtual 83, 3) := by decide +kernel
theorem dX8_readsTerm_22 : decode cX8_readsTerm 22 = .ok (.aload_n 0, 1) := by decide +kernel
theorem dX8_readsTerm_23 : decode cX8_readsTerm 23 = .ok (.dup, 1) := by decide +kernel
theorem dX8_readsTerm_24 : decode cX8_readsTerm 24 = .ok (.getfield 72, 3) := by decide +kernel
theorem dX8_readsTerm_27 : decode cX8_readsTerm 27 = .ok (.iconst 1, 1) := by decide +kernel
theorem dX8_readsTerm_28 : decode cX8_readsTerm 28 = .ok (.iadd, 1) := by decide +kernel
theorem dX8_readsTerm_29 : decode cX8_readsTerm 29 = .ok (.putfield 72, 3) := by decide +kernel
theorem dX8_readsTerm_32 : decode cX8_readsTerm 32 = .ok (.iconst 1, 1) := by decide +kernel
theorem dX8_readsTerm_33 : decode cX8_readsTerm 33 = .ok (.ireturn, 1) := by decide +kernel
theorem dX8_readsTerm_34 : decode cX8_readsTerm 34 = .ok (.iload_n 3, 1) := by decide +kernel
theorem dX8_readsTerm_35 : decode cX8_readsTerm 35 = .ok (.bipush 48, 2) := by decide +kernel
theorem dX8_readsTerm_37 : decode cX8_readsTerm 37 = .ok (.bipush 57, 2) := by decide +kernel
theorem dX8_readsTerm_39 : decode cX8_readsTerm 39 = .ok (.invokestatic 61, 3) := by decide +kernel
theorem dX8_readsTerm_42 : decode cX8_readsTerm 42 = .ok (.ifCond .ne 5, 3) := by decide +kernel
theorem dX8_readsTerm_45 : decode cX8_readsTerm 45 = .ok (.iconst 0, 1) := by decide +kernel
theorem dX8_readsTerm_46 : decode cX8_readsTerm 46 = .ok (.ireturn, 1) := by decide +kernel
theorem dX8_readsTerm_47 : decode cX8_readsTerm 47 = .ok (.iconst 0, 1) := by decide +kernel
theorem dX8_readsTerm_48 : decode cX8_readsTerm 48 = .ok (.istore 4, 2) := by decide +kernel
theorem dX8_readsTerm_50 : decode cX8_readsTerm 50 = .ok (.iload_n 3, 1) := by decide +kernel
theorem dX8_readsTerm_51 : decode cX8_readsTerm 51 = .ok (.bipush 48, 2) := by decide +kernel
theorem dX8_readsTerm_53 : decode cX8_readsTerm 53 = .ok (.if_icmp .ne 7, 3) := by decide +kernel
theorem dX8_readsTerm_56 : decode cX8_readsTerm 56 = .ok (.iconst 1, 1) := by decide +kernel
theorem dX8_readsTerm_57 : decode cX8_readsTerm 57 = .ok (.goto 4, 3) := by decide +kernel
theorem dX8_readsTerm_60 : decode cX8_readsTerm 60 = .ok (.iconst 3, 1) := by decide +kernel
theorem dX8_readsTerm_61 : decode cX8_readsTerm 61 = .ok (.istore 5, 2) := by decide +kernel
theorem dX8_readsTerm_63 : decode cX8_readsTerm 63 = .ok (.aload_n 0, 1) := by decide +kernel
theorem dX8_readsTerm_64 : decode cX8_readsTerm 64 = .ok (.getfield 72, 3) := by decide +kernel
theorem dX8_readsTerm_67 : decode cX8_readsTerm 67 = .ok (.istore 6, 2) := by decide +kernel
theorem dX8_readsTerm_69 : decode cX8_readsTerm 69 = .ok (.aload_n 0, 1) := by decide +kernel
theorem dX8_readsTerm_70 : decode cX8_readsTerm 70 = .ok (.getfield 72, 3) := by decide +kernel
theorem dX8_readsTerm_73 : decode cX8_readsTerm 73 = .ok (.aload_n 0, 1) := by decide +kernel
theorem dX8_readsTerm_74 : decode cX8_readsTerm 74 = .ok (.getfield 69, 3) := by decide +kernel
theorem dX8_readsTerm_77 : decode cX8_readsTerm 77 = .ok (.if_icmp .ge 67, 3) := by decide +kernel
theorem dX8_readsTerm_80 : decode cX8_readsTerm 80 = .ok (.aload_n 0, 1) := by decide +kernel
theorem dX8_readsTerm_81 : decode cX8_readsTerm 81 = .ok (.getfield 72, 3) := by decide +kernel
theorem dX8_readsTerm_84 : decode cX8_readsTerm 84 = .ok (.iload 6, 2) := by decide +kernel
theorem dX8_readsTerm_86 : decode cX8_readsTerm 86 = .ok (.isub, 1) := by decide +kernel
theorem dX8_readsTerm_87 : decode cX8_readsTerm 87 = .ok (.iload 5, 2) := by decide +kernel
theorem dX8_readsTerm_89 : decode cX8_readsTerm 89 = .ok (.if_icmp .ge 55, 3) := by decide +kernel
theorem dX8_readsTerm_92 : decode cX8_readsTerm 92 = .ok (.aload_n 0, 1) := by decide +kernel
theorem dX8_readsTerm_93 : decode cX8_readsTerm 93 = .ok (.getfield 16, 3) := by decide +kernel
theorem dX8_readsTerm_96 : decode cX8_readsTerm 96 = .ok (.aload_n 0, 1) := by decide +kernel
theorem dX8_readsTerm_97 : decode cX8_readsTerm 97 = .ok (.getfield 72, 3) := by decide +kernel
theorem dX8_readsTerm_100 : decode cX8_readsTerm 100 = .ok (.iaload, 1) := by decide +kernel
theorem dX8_readsTerm_101 : decode cX8_readsTerm 101 = .ok (.bipush 48, 2) := by decide +kernel
theorem dX8_readsTerm_103 : decode cX8_readsTerm 103 = .ok (.bipush 57, 2) := by decide +kernel
theorem dX8_readsTerm_105 : decode cX8_readsTerm 105 = .ok (.invokestatic 61, 3) := by decide +kernel
theorem dX8_readsTerm_108 : decode cX8_readsTerm 108 = .ok (.ifCond .eq 36, 3) := by decide +kernel
theorem dX8_readsTerm_111 : decode cX8_readsTerm 111 = .ok (.bipush 10, 2) := by decide +kernel
theorem dX8_readsTerm_113 : decode cX8_readsTerm 113 = .ok (.iload 4, 2) := by decide +kernel
theorem dX8_readsTerm_115 : decode cX8_readsTerm 115 = .ok (.imul, 1) := by decide +kernel
theorem dX8_readsTerm_116 : decode cX8_readsTerm 116 = .ok (.aload_n 0, 1) := by decide +kernel
theorem dX8_readsTerm_117 : decode cX8_readsTerm 117 = .ok (.getfield 16, 3) := by decide +kernel
theorem dX8_readsTerm_120 : decode cX8_readsTerm 120 = .ok (.aload_n 0, 1) := by decide +kernel
theorem dX8_readsTerm_121 : decode cX8_readsTerm 121 = .ok (.getfield 72, 3) := by decide +kernel
theorem dX8_readsTerm_124 : decode cX8_readsTerm 124 = .ok (.iaload, 1) := by decide +kernel
theorem dX8_readsTerm_125 : decode cX8_readsTerm 125 = .ok (.iadd, 1) := by decide +kernel
theorem dX8_readsTerm_126 : decode cX8_readsTerm 126 = .ok (.bipush 48, 2) := by decide +kernel
theorem dX8_readsTerm_128 : decode cX8_readsTerm 128 = .ok (.isub, 1) := by decide +kernel
theorem dX8_readsTerm_129 : decode cX8_readsTerm 129 = .ok (.istore 4, 2) := by decide +kernel
theorem dX8_readsTerm_131 : decode cX8_readsTerm 131 = .ok (.aload_n 0, 1) := by decide +kernel
theorem dX8_readsTerm_132 : decode cX8_readsTerm 132 = .ok (.dup, 1) := by decide +kernel
theorem dX8_readsTerm_133 : decode cX8_readsTerm 133 = .ok (.getfield 72, 3) := by decide +kernel
theorem dX8_readsTerm_136 : decode cX8_readsTerm 136 = .ok (.iconst 1, 1) := by decide +kernel
theorem dX8_readsTerm_137 : decode cX8_readsTerm 137 = .ok (.iadd, 1) := by decide +kernel
theorem dX8_readsTerm_138 : decode cX8_readsTerm 138 = .ok (.putfield 72, 3) := by decide +kernel
theorem dX8_readsTerm_141 : decode cX8_readsTerm 141 = .ok (.goto (-72), 3) := by decide +kernel
theorem dX8_readsTerm_144 : decode cX8_readsTerm 144 = .ok (.aload_n 0, 1) := by decide +kernel
theorem dX8_readsTerm_145 : decode cX8_readsTerm 145 = .ok (.iload_n 1, 1) := by decide +kernel
theorem dX8_readsTerm_146 : decode cX8_readsTerm 146 = .ok (.iload_n 2, 1) := by decide +kernel
theorem dX8_readsTerm_147 : decode cX8_readsTerm 147 = .ok (.bipush 10, 2) := by decide +kernel
theorem dX8_readsTerm_149 : decode cX8_readsTerm 149 = .ok (.iload 4, 2) := by decide +kernel
theorem dX8_readsTerm_151 : decode cX8_readsTerm 151 = .ok (.iadd, 1) := by decide +kernel
theorem dX8_readsTerm_152 : decode cX8_readsTerm 152 = .ok (.invokevirtual 83, 3) := by decide +kernel
theorem dX8_readsTerm_155 : decode cX8_readsTerm 155 = .ok (.iconst 1, 1) := by decide +kernel
theorem dX8_readsTerm_156 : decode cX8_readsTerm 156 = .ok (.ireturn, 1) := by decide +kernel
theorem dX8_readsSetting_0 : decode cX8_readsSetting 0 = .ok (.aload_n 0, 1) := by decide +kernel
theorem dX8_readsSetting_1 : decode cX8_readsSetting 1 = .ok (.iload_n 1, 1) := by decide +kernel
theorem dX8_readsSetting_2 : decode cX8_readsSetting 2 = .ok (.invokevirtual 87, 3) := by decide +kernel
theorem dX8_readsSetting_5 : decode cX8_readsSetting 5 = .ok (.ifCond .eq 21, 3) := by decide +kernel
theorem dX8_readsSetting_8 : decode cX8_readsSetting 8 = .ok (.aload_n 0, 1) := by decide +kernel
theorem dX8_readsSetting_9 : decode cX8_readsSetting 9 = .ok (.bipush 61, 2) := by decide +kernel
theorem dX8_readsSetting_11 : decode cX8_readsSetting 11 = .ok (.invokevirtual 90, 3) := by decide +kernel
theorem dX8_readsSetting_14 : decode cX8_readsSetting 14 = .ok (.ifCond .eq 12, 3) := by decide +kernel
theorem dX8_readsSetting_17 : decode cX8_readsSetting 17 = .ok (.aload_n 0, 1) := by decide +kernel
theorem dX8_readsSetting_18 : decode cX8_readsSetting 18 = .ok (.iload_n 1, 1) := by decide +kernel
theorem dX8_readsSetting_19 : decode cX8_readsSetting 19 = .ok (.iconst 3, 1) := by decide +kernel
theorem dX8_readsSetting_20 : decode cX8_readsSetting 20 = .ok (.invokevirtual 93, 3) := by decide +kernel
theorem dX8_readsSetting_23 : decode cX8_readsSetting 23 = .ok (.ifCond .ne 5, 3) := by decide +kernel
theorem dX8_readsSetting_26 : decode cX8_readsSetting 26 = .ok (.iconst 0, 1) := by decide +kernel
theorem dX8_readsSetting_27 : decode cX8_readsSetting 27 = .ok (.ireturn, 1) := by decide +kernel
theorem dX8_readsSetting_28 : decode cX8_readsSetting 28 = .ok (.aload_n 0, 1) := by decide +kernel
theorem dX8_readsSetting_29 : decode cX8_readsSetting 29 = .ok (.invokevirtual 75, 3) := by decide +kernel
theorem dX8_readsSetting_32 : decode cX8_readsSetting 32 = .ok (.istore_n 2, 1) := by decide +kernel
theorem dX8_readsSetting_33 : decode cX8_readsSetting 33 = .ok (.iload_n 2, 1) := by decide +kernel
theorem dX8_readsSetting_34 : decode cX8_readsSetting 34 = .ok (.bipush 43, 2) := by decide +kernel
theorem dX8_readsSetting_36 : decode cX8_readsSetting 36 = .ok (.if_icmp .eq 15, 3) := by decide +kernel
theorem dX8_readsSetting_39 : decode cX8_readsSetting 39 = .ok (.iload_n 2, 1) := by decide +kernel
theorem dX8_readsSetting_40 : decode cX8_readsSetting 40 = .ok (.bipush 45, 2) := by decide +kernel
theorem dX8_readsSetting_42 : decode cX8_readsSetting 42 = .ok (.if_icmp .eq 9, 3) := by decide +kernel
theorem dX8_readsSetting_45 : decode cX8_readsSetting 45 = .ok (.iload_n 2, 1) := by decide +kernel
theorem dX8_readsSetting_46 : decode cX8_readsSetting 46 = .ok (.bipush 42, 2) := by decide +kernel
theorem dX8_readsSetting_48 : decode cX8_readsSetting 48 = .ok (.if_icmp .ne 31, 3) := by decide +kernel
theorem dX8_readsSetting_51 : decode cX8_readsSetting 51 = .ok (.aload_n 0, 1) := by decide +kernel
theorem dX8_readsSetting_52 : decode cX8_readsSetting 52 = .ok (.dup, 1) := by decide +kernel
theorem dX8_readsSetting_53 : decode cX8_readsSetting 53 = .ok (.getfield 72, 3) := by decide +kernel
theorem dX8_readsSetting_56 : decode cX8_readsSetting 56 = .ok (.iconst 1, 1) := by decide +kernel
theorem dX8_readsSetting_57 : decode cX8_readsSetting 57 = .ok (.iadd, 1) := by decide +kernel
theorem dX8_readsSetting_58 : decode cX8_readsSetting 58 = .ok (.putfield 72, 3) := by decide +kernel
theorem dX8_readsSetting_61 : decode cX8_readsSetting 61 = .ok (.aload_n 0, 1) := by decide +kernel
theorem dX8_readsSetting_62 : decode cX8_readsSetting 62 = .ok (.iload_n 1, 1) := by decide +kernel
theorem dX8_readsSetting_63 : decode cX8_readsSetting 63 = .ok (.iconst 2, 1) := by decide +kernel
theorem dX8_readsSetting_64 : decode cX8_readsSetting 64 = .ok (.iload_n 2, 1) := by decide +kernel
theorem dX8_readsSetting_65 : decode cX8_readsSetting 65 = .ok (.invokevirtual 83, 3) := by decide +kernel
theorem dX8_readsSetting_68 : decode cX8_readsSetting 68 = .ok (.aload_n 0, 1) := by decide +kernel
theorem dX8_readsSetting_69 : decode cX8_readsSetting 69 = .ok (.iload_n 1, 1) := by decide +kernel
theorem dX8_readsSetting_70 : decode cX8_readsSetting 70 = .ok (.iconst 4, 1) := by decide +kernel
theorem dX8_readsSetting_71 : decode cX8_readsSetting 71 = .ok (.invokevirtual 93, 3) := by decide +kernel
theorem dX8_readsSetting_74 : decode cX8_readsSetting 74 = .ok (.ifCond .ne 5, 3) := by decide +kernel
theorem dX8_readsSetting_77 : decode cX8_readsSetting 77 = .ok (.iconst 0, 1) := by decide +kernel
theorem dX8_readsSetting_78 : decode cX8_readsSetting 78 = .ok (.ireturn, 1) := by decide +kernel
theorem dX8_readsSetting_79 : decode cX8_readsSetting 79 = .ok (.aload_n 0, 1) := by decide +kernel
theorem dX8_readsSetting_80 : decode cX8_readsSetting 80 = .ok (.bipush 59, 2) := by decide +kernel
theorem dX8_readsSetting_82 : decode cX8_readsSetting 82 = .ok (.invokevirtual 90, 3) := by decide +kernel
theorem dX8_readsSetting_85 : decode cX8_readsSetting 85 = .ok (.ireturn, 1) := by decide +kernel
theorem dX8_kindOf_0 : decode cX8_kindOf 0 = .ok (.iload_n 0, 1) := by decide +kernel
theorem dX8_kindOf_1 : decode cX8_kindOf 1 = .ok (.invokestatic 79, 3) := by decide +kernel
theorem dX8_kindOf_4 : decode cX8_kindOf 4 = .ok (.ifCond .eq 7, 3) := by decide +kernel
theorem dX8_kindOf_7 : decode cX8_kindOf 7 = .ok (.iconst 0, 1) := by decide +kernel
theorem dX8_kindOf_8 : decode cX8_kindOf 8 = .ok (.goto 44, 3) := by decide +kernel
theorem dX8_kindOf_11 : decode cX8_kindOf 11 = .ok (.iload_n 0, 1) := by decide +kernel
theorem dX8_kindOf_12 : decode cX8_kindOf 12 = .ok (.bipush 33, 2) := by decide +kernel
theorem dX8_kindOf_14 : decode cX8_kindOf 14 = .ok (.if_icmp .ne 7, 3) := by decide +kernel
theorem dX8_kindOf_17 : decode cX8_kindOf 17 = .ok (.iconst 1, 1) := by decide +kernel
theorem dX8_kindOf_18 : decode cX8_kindOf 18 = .ok (.goto 34, 3) := by decide +kernel
theorem dX8_kindOf_21 : decode cX8_kindOf 21 = .ok (.iload_n 0, 1) := by decide +kernel
theorem dX8_kindOf_22 : decode cX8_kindOf 22 = .ok (.bipush 35, 2) := by decide +kernel
theorem dX8_kindOf_24 : decode cX8_kindOf 24 = .ok (.if_icmp .ne 7, 3) := by decide +kernel
theorem dX8_kindOf_27 : decode cX8_kindOf 27 = .ok (.iconst 2, 1) := by decide +kernel
theorem dX8_kindOf_28 : decode cX8_kindOf 28 = .ok (.goto 24, 3) := by decide +kernel
theorem dX8_kindOf_31 : decode cX8_kindOf 31 = .ok (.iload_n 0, 1) := by decide +kernel
theorem dX8_kindOf_32 : decode cX8_kindOf 32 = .ok (.bipush 91, 2) := by decide +kernel
theorem dX8_kindOf_34 : decode cX8_kindOf 34 = .ok (.if_icmp .ne 7, 3) := by decide +kernel
theorem dX8_kindOf_37 : decode cX8_kindOf 37 = .ok (.iconst 3, 1) := by decide +kernel
theorem dX8_kindOf_38 : decode cX8_kindOf 38 = .ok (.goto 14, 3) := by decide +kernel
theorem dX8_kindOf_41 : decode cX8_kindOf 41 = .ok (.iload_n 0, 1) := by decide +kernel
theorem dX8_kindOf_42 : decode cX8_kindOf 42 = .ok (.bipush 63, 2) := by decide +kernel
theorem dX8_kindOf_44 : decode cX8_kindOf 44 = .ok (.if_icmp .ne 7, 3) := by decide +kernel
theorem dX8_kindOf_47 : decode cX8_kindOf 47 = .ok (.iconst 4, 1) := by decide +kernel
theorem dX8_kindOf_48 : decode cX8_kindOf 48 = .ok (.goto 4, 3) := by decide +kernel
theorem dX8_kindOf_51 : decode cX8_kindOf 51 = .ok (.iconst (-1), 1) := by decide +kernel
theorem dX8_kindOf_52 : decode cX8_kindOf 52 = .ok (.ireturn, 1) := by decide +kernel
theorem dX8_readsStatement_0 : decode cX8_readsStatement 0 = .ok (.aload_n 0, 1) := by decide +kernel
theorem dX8_readsStatement_1 : decode cX8_readsStatement 1 = .ok (.getfield 19, 3) := by decide +kernel
theorem dX8_readsStatement_4 : decode cX8_readsStatement 4 = .ok (.iconst 0, 1) := by decide +kernel
theorem dX8_readsStatement_5 : decode cX8_readsStatement 5 = .ok (.iaload, 1) := by decide +kernel
theorem dX8_readsStatement_6 : decode cX8_readsStatement 6 = .ok (.istore_n 3, 1) := by decide +kernel
theorem dX8_readsStatement_7 : decode cX8_readsStatement 7 = .ok (.iload_n 3, 1) := by decide +kernel
theorem dX8_readsStatement_8 : decode cX8_readsStatement 8 = .ok (.bipush 60, 2) := by decide +kernel
theorem dX8_readsStatement_10 : decode cX8_readsStatement 10 = .ok (.if_icmp .eq 13, 3) := by decide +kernel
theorem dX8_readsStatement_13 : decode cX8_readsStatement 13 = .ok (.iload_n 1, 1) := by decide +kernel
theorem dX8_readsStatement_14 : decode cX8_readsStatement 14 = .ok (.iconst 3, 1) := by decide +kernel
theorem dX8_readsStatement_15 : decode cX8_readsStatement 15 = .ok (.if_icmp .lt 10, 3) := by decide +kernel
theorem dX8_readsStatement_18 : decode cX8_readsStatement 18 = .ok (.iload_n 2, 1) := by decide +kernel
theorem dX8_readsStatement_19 : decode cX8_readsStatement 19 = .ok (.iconst 5, 1) := by decide +kernel
theorem dX8_readsStatement_20 : decode cX8_readsStatement 20 = .ok (.if_icmp .ne 5, 3) := by decide +kernel
theorem dX8_readsStatement_23 : decode cX8_readsStatement 23 = .ok (.iconst 0, 1) := by decide +kernel
theorem dX8_readsStatement_24 : decode cX8_readsStatement 24 = .ok (.ireturn, 1) := by decide +kernel
theorem dX8_readsStatement_25 : decode cX8_readsStatement 25 = .ok (.aload_n 0, 1) := by decide +kernel
theorem dX8_readsStatement_26 : decode cX8_readsStatement 26 = .ok (.getfield 19, 3) := by decide +kernel
theorem dX8_readsStatement_29 : decode cX8_readsStatement 29 = .ok (.iconst 0, 1) := by decide +kernel
theorem dX8_readsStatement_30 : decode cX8_readsStatement 30 = .ok (.dup2, 1) := by decide +kernel
theorem dX8_readsStatement_31 : decode cX8_readsStatement 31 = .ok (.iaload, 1) := by decide +kernel
theorem dX8_readsStatement_32 : decode cX8_readsStatement 32 = .ok (.iconst 1, 1) := by decide +kernel
theorem dX8_readsStatement_33 : decode cX8_readsStatement 33 = .ok (.iadd, 1) := by decide +kernel
theorem dX8_readsStatement_34 : decode cX8_readsStatement 34 = .ok (.iastore, 1) := by decide +kernel
theorem dX8_readsStatement_35 : decode cX8_readsStatement 35 = .ok (.iconst 0, 1) := by decide +kernel
theorem dX8_readsStatement_36 : decode cX8_readsStatement 36 = .ok (.istore 4, 2) := by decide +kernel
theorem dX8_readsStatement_38 : decode cX8_readsStatement 38 = .ok (.iload 4, 2) := by decide +kernel
theorem dX8_readsStatement_40 : decode cX8_readsStatement 40 = .ok (.bipush 7, 2) := by decide +kernel
theorem dX8_readsStatement_42 : decode cX8_readsStatement 42 = .ok (.if_icmp .ge 17, 3) := by decide +kernel
theorem dX8_readsStatement_45 : decode cX8_readsStatement 45 = .ok (.aload_n 0, 1) := by decide +kernel
theorem dX8_readsStatement_46 : decode cX8_readsStatement 46 = .ok (.iload_n 3, 1) := by decide +kernel
theorem dX8_readsStatement_47 : decode cX8_readsStatement 47 = .ok (.iload 4, 2) := by decide +kernel
theorem dX8_readsStatement_49 : decode cX8_readsStatement 49 = .ok (.iconst 0, 1) := by decide +kernel
theorem dX8_readsStatement_50 : decode cX8_readsStatement 50 = .ok (.invokevirtual 83, 3) := by decide +kernel
theorem dX8_readsStatement_53 : decode cX8_readsStatement 53 = .ok (.iinc 4 1, 3) := by decide +kernel
theorem dX8_readsStatement_56 : decode cX8_readsStatement 56 = .ok (.goto (-18), 3) := by decide +kernel
theorem dX8_readsStatement_59 : decode cX8_readsStatement 59 = .ok (.aload_n 0, 1) := by decide +kernel
theorem dX8_readsStatement_60 : decode cX8_readsStatement 60 = .ok (.iload_n 3, 1) := by decide +kernel
theorem dX8_readsStatement_61 : decode cX8_readsStatement 61 = .ok (.iconst 0, 1) := by decide +kernel
theorem dX8_readsStatement_62 : decode cX8_readsStatement 62 = .ok (.iload_n 1, 1) := by decide +kernel
theorem dX8_readsStatement_63 : decode cX8_readsStatement 63 = .ok (.invokevirtual 83, 3) := by decide +kernel
theorem dX8_readsStatement_66 : decode cX8_readsStatement 66 = .ok (.iload_n 1, 1) := by decide +kernel
theorem dX8_readsStatement_67 : decode cX8_readsStatement 67 = .ok (.ifCond .ne 9, 3) := by decide +kernel
theorem dX8_readsStatement_70 : decode cX8_readsStatement 70 = .ok (.aload_n 0, 1) := by decide +kernel
theorem dX8_readsStatement_71 : decode cX8_readsStatement 71 = .ok (.iload_n 3, 1) := by decide +kernel
theorem dX8_readsStatement_72 : decode cX8_readsStatement 72 = .ok (.invokevirtual 97, 3) := by decide +kernel
theorem dX8_readsStatement_75 : decode cX8_readsStatement 75 = .ok (.ireturn, 1) := by decide +kernel
theorem dX8_readsStatement_76 : decode cX8_readsStatement 76 = .ok (.aload_n 0, 1) := by decide +kernel
theorem dX8_readsStatement_77 : decode cX8_readsStatement 77 = .ok (.dup, 1) := by decide +kernel
theorem dX8_readsStatement_78 : decode cX8_readsStatement 78 = .ok (.getfield 72, 3) := by decide +kernel
theorem dX8_readsStatement_81 : decode cX8_readsStatement 81 = .ok (.iconst 1, 1) := by decide +kernel
theorem dX8_readsStatement_82 : decode cX8_readsStatement 82 = .ok (.iadd, 1) := by decide +kernel
theorem dX8_readsStatement_83 : decode cX8_readsStatement 83 = .ok (.putfield 72, 3) := by decide +kernel
theorem dX8_readsStatement_86 : decode cX8_readsStatement 86 = .ok (.iload_n 1, 1) := by decide +kernel
theorem dX8_readsStatement_87 : decode cX8_readsStatement 87 = .ok (.iconst 2, 1) := by decide +kernel
theorem dX8_readsStatement_88 : decode cX8_readsStatement 88 = .ok (.if_icmp .ne 10, 3) := by decide +kernel
theorem dX8_readsStatement_91 : decode cX8_readsStatement 91 = .ok (.aload_n 0, 1) := by decide +kernel
theorem dX8_readsStatement_92 : decode cX8_readsStatement 92 = .ok (.bipush 59, 2) := by decide +kernel
theorem dX8_readsStatement_94 : decode cX8_readsStatement 94 = .ok (.invokevirtual 90, 3) := by decide +kernel
theorem dX8_readsStatement_97 : decode cX8_readsStatement 97 = .ok (.ireturn, 1) := by decide +kernel
theorem dX8_readsStatement_98 : decode cX8_readsStatement 98 = .ok (.aload_n 0, 1) := by decide +kernel
theorem dX8_readsStatement_99 : decode cX8_readsStatement 99 = .ok (.iload_n 3, 1) := by decide +kernel
theorem dX8_readsStatement_100 : decode cX8_readsStatement 100 = .ok (.invokevirtual 87, 3) := by decide +kernel
theorem dX8_readsStatement_103 : decode cX8_readsStatement 103 = .ok (.ifCond .ne 5, 3) := by decide +kernel
theorem dX8_readsStatement_106 : decode cX8_readsStatement 106 = .ok (.iconst 0, 1) := by decide +kernel
theorem dX8_readsStatement_107 : decode cX8_readsStatement 107 = .ok (.ireturn, 1) := by decide +kernel
theorem dX8_readsStatement_108 : decode cX8_readsStatement 108 = .ok (.iload_n 1, 1) := by decide +kernel
theorem dX8_readsStatement_109 : decode cX8_readsStatement 109 = .ok (.iconst 1, 1) := by decide +kernel
theorem dX8_readsStatement_110 : decode cX8_readsStatement 110 = .ok (.if_icmp .ne 10, 3) := by decide +kernel
theorem dX8_readsStatement_113 : decode cX8_readsStatement 113 = .ok (.aload_n 0, 1) := by decide +kernel
theorem dX8_readsStatement_114 : decode cX8_readsStatement 114 = .ok (.bipush 59, 2) := by decide +kernel
theorem dX8_readsStatement_116 : decode cX8_readsStatement 116 = .ok (.invokevirtual 90, 3) := by decide +kernel
theorem dX8_readsStatement_119 : decode cX8_readsStatement 119 = .ok (.ireturn, 1) := by decide +kernel
theorem dX8_readsStatement_120 : decode cX8_readsStatement 120 = .ok (.aload_n 0, 1) := by decide +kernel
theorem dX8_readsStatement_121 : decode cX8_readsStatement 121 = .ok (.getfield 22, 3) := by decide +kernel
theorem dX8_readsStatement_124 : decode cX8_readsStatement 124 = .ok (.iload_n 2, 1) := by decide +kernel
theorem dX8_readsStatement_125 : decode cX8_readsStatement 125 = .ok (.iload_n 3, 1) := by decide +kernel
theorem dX8_readsStatement_126 : decode cX8_readsStatement 126 = .ok (.iastore, 1) := by decide +kernel
theorem dX8_readsStatement_127 : decode cX8_readsStatement 127 = .ok (.aload_n 0, 1) := by decide +kernel
theorem dX8_readsStatement_128 : decode cX8_readsStatement 128 = .ok (.getfield 25, 3) := by decide +kernel
theorem dX8_readsStatement_131 : decode cX8_readsStatement 131 = .ok (.iload_n 2, 1) := by decide +kernel
theorem dX8_readsStatement_132 : decode cX8_readsStatement 132 = .ok (.iload_n 1, 1) := by decide +kernel
theorem dX8_readsStatement_133 : decode cX8_readsStatement 133 = .ok (.iconst 3, 1) := by decide +kernel
theorem dX8_readsStatement_134 : decode cX8_readsStatement 134 = .ok (.if_icmp .ne 8, 3) := by decide +kernel
theorem dX8_readsStatement_137 : decode cX8_readsStatement 137 = .ok (.bipush 93, 2) := by decide +kernel
theorem dX8_readsStatement_139 : decode cX8_readsStatement 139 = .ok (.goto 5, 3) := by decide +kernel
theorem dX8_readsStatement_142 : decode cX8_readsStatement 142 = .ok (.bipush 58, 2) := by decide +kernel
theorem dX8_readsStatement_144 : decode cX8_readsStatement 144 = .ok (.iastore, 1) := by decide +kernel
theorem dX8_readsStatement_145 : decode cX8_readsStatement 145 = .ok (.iconst 1, 1) := by decide +kernel
theorem dX8_readsStatement_146 : decode cX8_readsStatement 146 = .ok (.ireturn, 1) := by decide +kernel
theorem dX8_readsAll_0 : decode cX8_readsAll 0 = .ok (.aload_n 0, 1) := by decide +kernel
theorem dX8_readsAll_1 : decode cX8_readsAll 1 = .ok (.getfield 19, 3) := by decide +kernel
theorem dX8_readsAll_4 : decode cX8_readsAll 4 = .ok (.iconst 0, 1) := by decide +kernel
theorem dX8_readsAll_5 : decode cX8_readsAll 5 = .ok (.iconst 0, 1) := by decide +kernel
theorem dX8_readsAll_6 : decode cX8_readsAll 6 = .ok (.iastore, 1) := by decide +kernel
theorem dX8_readsAll_7 : decode cX8_readsAll 7 = .ok (.aload_n 0, 1) := by decide +kernel
theorem dX8_readsAll_8 : decode cX8_readsAll 8 = .ok (.iconst 0, 1) := by decide +kernel
theorem dX8_readsAll_9 : decode cX8_readsAll 9 = .ok (.putfield 72, 3) := by decide +kernel
theorem dX8_readsAll_12 : decode cX8_readsAll 12 = .ok (.iconst 0, 1) := by decide +kernel
theorem dX8_readsAll_13 : decode cX8_readsAll 13 = .ok (.istore_n 1, 1) := by decide +kernel
theorem dX8_readsAll_14 : decode cX8_readsAll 14 = .ok (.aload_n 0, 1) := by decide +kernel
theorem dX8_readsAll_15 : decode cX8_readsAll 15 = .ok (.invokevirtual 75, 3) := by decide +kernel
theorem dX8_readsAll_18 : decode cX8_readsAll 18 = .ok (.istore_n 2, 1) := by decide +kernel
theorem dX8_readsAll_19 : decode cX8_readsAll 19 = .ok (.iload_n 2, 1) := by decide +kernel
theorem dX8_readsAll_20 : decode cX8_readsAll 20 = .ok (.ifCond .eq 136, 3) := by decide +kernel
theorem dX8_readsAll_23 : decode cX8_readsAll 23 = .ok (.iload_n 2, 1) := by decide +kernel
theorem dX8_readsAll_24 : decode cX8_readsAll 24 = .ok (.invokestatic 100, 3) := by decide +kernel
theorem dX8_readsAll_27 : decode cX8_readsAll 27 = .ok (.istore_n 3, 1) := by decide +kernel
theorem dX8_readsAll_28 : decode cX8_readsAll 28 = .ok (.iload_n 3, 1) := by decide +kernel
theorem dX8_readsAll_29 : decode cX8_readsAll 29 = .ok (.ifCond .lt 30, 3) := by decide +kernel
theorem dX8_readsAll_32 : decode cX8_readsAll 32 = .ok (.aload_n 0, 1) := by decide +kernel
theorem dX8_readsAll_33 : decode cX8_readsAll 33 = .ok (.iload_n 3, 1) := by decide +kernel
theorem dX8_readsAll_34 : decode cX8_readsAll 34 = .ok (.iload_n 1, 1) := by decide +kernel
theorem dX8_readsAll_35 : decode cX8_readsAll 35 = .ok (.invokevirtual 104, 3) := by decide +kernel
theorem dX8_readsAll_38 : decode cX8_readsAll 38 = .ok (.ifCond .ne 5, 3) := by decide +kernel
theorem dX8_readsAll_41 : decode cX8_readsAll 41 = .ok (.iconst 0, 1) := by decide +kernel
theorem dX8_readsAll_42 : decode cX8_readsAll 42 = .ok (.ireturn, 1) := by decide +kernel
theorem dX8_readsAll_43 : decode cX8_readsAll 43 = .ok (.iload_n 1, 1) := by decide +kernel
theorem dX8_readsAll_44 : decode cX8_readsAll 44 = .ok (.iload_n 3, 1) := by decide +kernel
theorem dX8_readsAll_45 : decode cX8_readsAll 45 = .ok (.iconst 3, 1) := by decide +kernel
theorem dX8_readsAll_46 : decode cX8_readsAll 46 = .ok (.if_icmp .lt 7, 3) := by decide +kernel
theorem dX8_readsAll_49 : decode cX8_readsAll 49 = .ok (.iconst 1, 1) := by decide +kernel
theorem dX8_readsAll_50 : decode cX8_readsAll 50 = .ok (.goto 4, 3) := by decide +kernel
theorem dX8_readsAll_53 : decode cX8_readsAll 53 = .ok (.iconst 0, 1) := by decide +kernel
theorem dX8_readsAll_54 : decode cX8_readsAll 54 = .ok (.iadd, 1) := by decide +kernel
theorem dX8_readsAll_55 : decode cX8_readsAll 55 = .ok (.istore_n 1, 1) := by decide +kernel
theorem dX8_readsAll_56 : decode cX8_readsAll 56 = .ok (.goto 92, 3) := by decide +kernel
theorem dX8_readsAll_59 : decode cX8_readsAll 59 = .ok (.iload_n 1, 1) := by decide +kernel
theorem dX8_readsAll_60 : decode cX8_readsAll 60 = .ok (.ifCond .le 86, 3) := by decide +kernel
theorem dX8_readsAll_63 : decode cX8_readsAll 63 = .ok (.iload_n 2, 1) := by decide +kernel
theorem dX8_readsAll_64 : decode cX8_readsAll 64 = .ok (.aload_n 0, 1) := by decide +kernel
theorem dX8_readsAll_65 : decode cX8_readsAll 65 = .ok (.getfield 25, 3) := by decide +kernel
theorem dX8_readsAll_68 : decode cX8_readsAll 68 = .ok (.iload_n 1, 1) := by decide +kernel
theorem dX8_readsAll_69 : decode cX8_readsAll 69 = .ok (.iconst 1, 1) := by decide +kernel
theorem dX8_readsAll_70 : decode cX8_readsAll 70 = .ok (.isub, 1) := by decide +kernel
theorem dX8_readsAll_71 : decode cX8_readsAll 71 = .ok (.iaload, 1) := by decide +kernel
theorem dX8_readsAll_72 : decode cX8_readsAll 72 = .ok (.if_icmp .ne 74, 3) := by decide +kernel
theorem dX8_readsAll_75 : decode cX8_readsAll 75 = .ok (.aload_n 0, 1) := by decide +kernel
theorem dX8_readsAll_76 : decode cX8_readsAll 76 = .ok (.dup, 1) := by decide +kernel
theorem dX8_readsAll_77 : decode cX8_readsAll 77 = .ok (.getfield 72, 3) := by decide +kernel
theorem dX8_readsAll_80 : decode cX8_readsAll 80 = .ok (.iconst 1, 1) := by decide +kernel
theorem dX8_readsAll_81 : decode cX8_readsAll 81 = .ok (.iadd, 1) := by decide +kernel
theorem dX8_readsAll_82 : decode cX8_readsAll 82 = .ok (.putfield 72, 3) := by decide +kernel
theorem dX8_readsAll_85 : decode cX8_readsAll 85 = .ok (.aload_n 0, 1) := by decide +kernel
theorem dX8_readsAll_86 : decode cX8_readsAll 86 = .ok (.getfield 22, 3) := by decide +kernel
theorem dX8_readsAll_89 : decode cX8_readsAll 89 = .ok (.iload_n 1, 1) := by decide +kernel
theorem dX8_readsAll_90 : decode cX8_readsAll 90 = .ok (.iconst 1, 1) := by decide +kernel
theorem dX8_readsAll_91 : decode cX8_readsAll 91 = .ok (.isub, 1) := by decide +kernel
theorem dX8_readsAll_92 : decode cX8_readsAll 92 = .ok (.iaload, 1) := by decide +kernel
theorem dX8_readsAll_93 : decode cX8_readsAll 93 = .ok (.istore 4, 2) := by decide +kernel
theorem dX8_readsAll_95 : decode cX8_readsAll 95 = .ok (.aload_n 0, 1) := by decide +kernel
theorem dX8_readsAll_96 : decode cX8_readsAll 96 = .ok (.iload 4, 2) := by decide +kernel
theorem dX8_readsAll_98 : decode cX8_readsAll 98 = .ok (.iload_n 2, 1) := by decide +kernel
theorem dX8_readsAll_99 : decode cX8_readsAll 99 = .ok (.bipush 58, 2) := by decide +kernel
theorem dX8_readsAll_101 : decode cX8_readsAll 101 = .ok (.if_icmp .ne 7, 3) := by decide +kernel
theorem dX8_readsAll_104 : decode cX8_readsAll 104 = .ok (.iconst 5, 1) := by decide +kernel
theorem dX8_readsAll_105 : decode cX8_readsAll 105 = .ok (.goto 5, 3) := by decide +kernel
theorem dX8_readsAll_108 : decode cX8_readsAll 108 = .ok (.bipush 6, 2) := by decide +kernel
theorem dX8_readsAll_110 : decode cX8_readsAll 110 = .ok (.aload_n 0, 1) := by decide +kernel
theorem dX8_readsAll_111 : decode cX8_readsAll 111 = .ok (.getfield 19, 3) := by decide +kernel
theorem dX8_readsAll_114 : decode cX8_readsAll 114 = .ok (.iconst 0, 1) := by decide +kernel
theorem dX8_readsAll_115 : decode cX8_readsAll 115 = .ok (.iaload, 1) := by decide +kernel
theorem dX8_readsAll_116 : decode cX8_readsAll 116 = .ok (.invokevirtual 83, 3) := by decide +kernel
theorem dX8_readsAll_119 : decode cX8_readsAll 119 = .ok (.aload_n 0, 1) := by decide +kernel
theorem dX8_readsAll_120 : decode cX8_readsAll 120 = .ok (.getfield 25, 3) := by decide +kernel
theorem dX8_readsAll_123 : decode cX8_readsAll 123 = .ok (.iload_n 1, 1) := by decide +kernel
theorem dX8_readsAll_124 : decode cX8_readsAll 124 = .ok (.iconst 1, 1) := by decide +kernel
theorem dX8_readsAll_125 : decode cX8_readsAll 125 = .ok (.isub, 1) := by decide +kernel
theorem dX8_readsAll_126 : decode cX8_readsAll 126 = .ok (.bipush 46, 2) := by decide +kernel
theorem dX8_readsAll_128 : decode cX8_readsAll 128 = .ok (.iastore, 1) := by decide +kernel
theorem dX8_readsAll_129 : decode cX8_readsAll 129 = .ok (.iload_n 1, 1) := by decide +kernel
theorem dX8_readsAll_130 : decode cX8_readsAll 130 = .ok (.iload_n 2, 1) := by decide +kernel
theorem dX8_readsAll_131 : decode cX8_readsAll 131 = .ok (.bipush 58, 2) := by decide +kernel
theorem dX8_readsAll_133 : decode cX8_readsAll 133 = .ok (.if_icmp .ne 7, 3) := by decide +kernel
theorem dX8_readsAll_136 : decode cX8_readsAll 136 = .ok (.iconst 0, 1) := by decide +kernel
theorem dX8_readsAll_137 : decode cX8_readsAll 137 = .ok (.goto 4, 3) := by decide +kernel
theorem dX8_readsAll_140 : decode cX8_readsAll 140 = .ok (.iconst 1, 1) := by decide +kernel
theorem dX8_readsAll_141 : decode cX8_readsAll 141 = .ok (.isub, 1) := by decide +kernel
theorem dX8_readsAll_142 : decode cX8_readsAll 142 = .ok (.istore_n 1, 1) := by decide +kernel
theorem dX8_readsAll_143 : decode cX8_readsAll 143 = .ok (.goto 5, 3) := by decide +kernel
theorem dX8_readsAll_146 : decode cX8_readsAll 146 = .ok (.iconst 0, 1) := by decide +kernel
theorem dX8_readsAll_147 : decode cX8_readsAll 147 = .ok (.ireturn, 1) := by decide +kernel
theorem dX8_readsAll_148 : decode cX8_readsAll 148 = .ok (.aload_n 0, 1) := by decide +kernel
theorem dX8_readsAll_149 : decode cX8_readsAll 149 = .ok (.invokevirtual 75, 3) := by decide +kernel
theorem dX8_readsAll_152 : decode cX8_readsAll 152 = .ok (.istore_n 2, 1) := by decide +kernel
theorem dX8_readsAll_153 : decode cX8_readsAll 153 = .ok (.goto (-134), 3) := by decide +kernel
theorem dX8_readsAll_156 : decode cX8_readsAll 156 = .ok (.iload_n 1, 1) := by decide +kernel
theorem dX8_readsAll_157 : decode cX8_readsAll 157 = .ok (.ifCond .ne 7, 3) := by decide +kernel
theorem dX8_readsAll_160 : decode cX8_readsAll 160 = .ok (.iconst 1, 1) := by decide +kernel
theorem dX8_readsAll_161 : decode cX8_readsAll 161 = .ok (.goto 4, 3) := by decide +kernel
theorem dX8_readsAll_164 : decode cX8_readsAll 164 = .ok (.iconst 0, 1) := by decide +kernel
theorem dX8_readsAll_165 : decode cX8_readsAll 165 = .ok (.ireturn, 1) := by decide +kernel
theorem dX8_read_0 : decode cX8_read 0 = .ok (.iload_n 1, 1) := by decide +kernel
theorem dX8_read_1 : decode cX8_read 1 = .ok (.invokestatic 107, 3) := by decide +kernel
theorem dX8_read_4 : decode cX8_read 4 = .ok (.ifCond .ne 7, 3) := by decide +kernel
theorem dX8_read_7 : decode cX8_read 7 = .ok (.sipush (-10001), 3) := by decide +kernel
theorem dX8_read_10 : decode cX8_read 10 = .ok (.ireturn, 1) := by decide +kernel
theorem dX8_read_11 : decode cX8_read 11 = .ok (.aload_n 0, 1) := by decide +kernel
theorem dX8_read_12 : decode cX8_read 12 = .ok (.invokevirtual 110, 3) := by decide +kernel
theorem dX8_read_15 : decode cX8_read 15 = .ok (.ifCond .ne 12, 3) := by decide +kernel
theorem dX8_read_18 : decode cX8_read 18 = .ok (.sipush (-1000), 3) := by decide +kernel
theorem dX8_read_21 : decode cX8_read 21 = .ok (.aload_n 0, 1) := by decide +kernel
theorem dX8_read_22 : decode cX8_read 22 = .ok (.getfield 72, 3) := by decide +kernel
theorem dX8_read_25 : decode cX8_read 25 = .ok (.isub, 1) := by decide +kernel
theorem dX8_read_26 : decode cX8_read 26 = .ok (.ireturn, 1) := by decide +kernel
theorem dX8_read_27 : decode cX8_read 27 = .ok (.aload_n 0, 1) := by decide +kernel
theorem dX8_read_28 : decode cX8_read 28 = .ok (.invokevirtual 114, 3) := by decide +kernel
theorem dX8_read_31 : decode cX8_read 31 = .ok (.aload_n 0, 1) := by decide +kernel
theorem dX8_read_32 : decode cX8_read 32 = .ok (.iload_n 1, 1) := by decide +kernel
theorem dX8_read_33 : decode cX8_read 33 = .ok (.invokevirtual 117, 3) := by decide +kernel
theorem dX8_read_36 : decode cX8_read 36 = .ok (.aload_n 0, 1) := by decide +kernel
theorem dX8_read_37 : decode cX8_read 37 = .ok (.getfield 19, 3) := by decide +kernel
theorem dX8_read_40 : decode cX8_read 40 = .ok (.iconst 0, 1) := by decide +kernel
theorem dX8_read_41 : decode cX8_read 41 = .ok (.iaload, 1) := by decide +kernel
theorem dX8_read_42 : decode cX8_read 42 = .ok (.ireturn, 1) := by decide +kernel
theorem dX8_copy_0 : decode cX8_copy 0 = .ok (.aload_n 0, 1) := by decide +kernel
theorem dX8_copy_1 : decode cX8_copy 1 = .ok (.invokevirtual 114, 3) := by decide +kernel
theorem dX8_copy_4 : decode cX8_copy 4 = .ok (.aload_n 0, 1) := by decide +kernel
theorem dX8_copy_5 : decode cX8_copy 5 = .ok (.iconst 0, 1) := by decide +kernel
theorem dX8_copy_6 : decode cX8_copy 6 = .ok (.invokevirtual 121, 3) := by decide +kernel
theorem dX8_copy_9 : decode cX8_copy 9 = .ok (.aload_n 0, 1) := by decide +kernel
theorem dX8_copy_10 : decode cX8_copy 10 = .ok (.iconst 1, 1) := by decide +kernel
theorem dX8_copy_11 : decode cX8_copy 11 = .ok (.invokevirtual 117, 3) := by decide +kernel
theorem dX8_copy_14 : decode cX8_copy 14 = .ok (.aload_n 0, 1) := by decide +kernel
theorem dX8_copy_15 : decode cX8_copy 15 = .ok (.getfield 19, 3) := by decide +kernel
theorem dX8_copy_18 : decode cX8_copy 18 = .ok (.iconst 0, 1) := by decide +kernel
theorem dX8_copy_19 : decode cX8_copy 19 = .ok (.iaload, 1) := by decide +kernel
theorem dX8_copy_20 : decode cX8_copy 20 = .ok (.ireturn, 1) := by decide +kernel
theorem dX8_exchange_0 : decode cX8_exchange 0 = .ok (.aload_n 0, 1) := by decide +kernel
theorem dX8_exchange_1 : decode cX8_exchange 1 = .ok (.invokevirtual 114, 3) := by decide +kernel
theorem dX8_exchange_4 : decode cX8_exchange 4 = .ok (.aload_n 0, 1) := by decide +kernel
theorem dX8_exchange_5 : decode cX8_exchange 5 = .ok (.iconst 0, 1) := by decide +kernel
theorem dX8_exchange_6 : decode cX8_exchange 6 = .ok (.invokevirtual 121, 3) := by decide +kernel
theorem dX8_exchange_9 : decode cX8_exchange 9 = .ok (.iconst 0, 1) := by decide +kernel
theorem dX8_exchange_10 : decode cX8_exchange 10 = .ok (.istore_n 1, 1) := by decide +kernel
theorem dX8_exchange_11 : decode cX8_exchange 11 = .ok (.iload_n 1, 1) := by decide +kernel
theorem dX8_exchange_12 : decode cX8_exchange 12 = .ok (.sipush 421, 3) := by decide +kernel
theorem dX8_exchange_15 : decode cX8_exchange 15 = .ok (.if_icmp .ge 25, 3) := by decide +kernel
theorem dX8_exchange_18 : decode cX8_exchange 18 = .ok (.aload_n 0, 1) := by decide +kernel
theorem dX8_exchange_19 : decode cX8_exchange 19 = .ok (.getfield 7, 3) := by decide +kernel
theorem dX8_exchange_22 : decode cX8_exchange 22 = .ok (.iload_n 1, 1) := by decide +kernel
theorem dX8_exchange_23 : decode cX8_exchange 23 = .ok (.aload_n 0, 1) := by decide +kernel
theorem dX8_exchange_24 : decode cX8_exchange 24 = .ok (.getfield 7, 3) := by decide +kernel
theorem dX8_exchange_27 : decode cX8_exchange 27 = .ok (.sipush 421, 3) := by decide +kernel
theorem dX8_exchange_30 : decode cX8_exchange 30 = .ok (.iload_n 1, 1) := by decide +kernel
theorem dX8_exchange_31 : decode cX8_exchange 31 = .ok (.iadd, 1) := by decide +kernel
theorem dX8_exchange_32 : decode cX8_exchange 32 = .ok (.iaload, 1) := by decide +kernel
theorem dX8_exchange_33 : decode cX8_exchange 33 = .ok (.iastore, 1) := by decide +kernel
theorem dX8_exchange_34 : decode cX8_exchange 34 = .ok (.iinc 1 1, 3) := by decide +kernel
theorem dX8_exchange_37 : decode cX8_exchange 37 = .ok (.goto (-26), 3) := by decide +kernel
theorem dX8_exchange_40 : decode cX8_exchange 40 = .ok (.aload_n 0, 1) := by decide +kernel
theorem dX8_exchange_41 : decode cX8_exchange 41 = .ok (.iconst 1, 1) := by decide +kernel
theorem dX8_exchange_42 : decode cX8_exchange 42 = .ok (.invokevirtual 117, 3) := by decide +kernel
theorem dX8_exchange_45 : decode cX8_exchange 45 = .ok (.aload_n 0, 1) := by decide +kernel
theorem dX8_exchange_46 : decode cX8_exchange 46 = .ok (.getfield 7, 3) := by decide +kernel
theorem dX8_exchange_49 : decode cX8_exchange 49 = .ok (.iconst 0, 1) := by decide +kernel
theorem dX8_exchange_50 : decode cX8_exchange 50 = .ok (.iaload, 1) := by decide +kernel
theorem dX8_exchange_51 : decode cX8_exchange 51 = .ok (.ireturn, 1) := by decide +kernel
theorem dX8_sizeOf_0 : decode cX8_sizeOf 0 = .ok (.aload_n 0, 1) := by decide +kernel
theorem dX8_sizeOf_1 : decode cX8_sizeOf 1 = .ok (.iload_n 1, 1) := by decide +kernel
theorem dX8_sizeOf_2 : decode cX8_sizeOf 2 = .ok (.iconst 0, 1) := by decide +kernel
theorem dX8_sizeOf_3 : decode cX8_sizeOf 3 = .ok (.invokevirtual 124, 3) := by decide +kernel
theorem dX8_sizeOf_6 : decode cX8_sizeOf 6 = .ok (.iconst 3, 1) := by decide +kernel
theorem dX8_sizeOf_7 : decode cX8_sizeOf 7 = .ok (.if_icmp .lt 15, 3) := by decide +kernel
theorem dX8_sizeOf_10 : decode cX8_sizeOf 10 = .ok (.aload_n 0, 1) := by decide +kernel
theorem dX8_sizeOf_11 : decode cX8_sizeOf 11 = .ok (.iload_n 1, 1) := by decide +kernel
theorem dX8_sizeOf_12 : decode cX8_sizeOf 12 = .ok (.bipush 6, 2) := by decide +kernel
theorem dX8_sizeOf_14 : decode cX8_sizeOf 14 = .ok (.invokevirtual 124, 3) := by decide +kernel
theorem dX8_sizeOf_17 : decode cX8_sizeOf 17 = .ok (.iload_n 1, 1) := by decide +kernel
theorem dX8_sizeOf_18 : decode cX8_sizeOf 18 = .ok (.isub, 1) := by decide +kernel
theorem dX8_sizeOf_19 : decode cX8_sizeOf 19 = .ok (.goto 4, 3) := by decide +kernel
theorem dX8_sizeOf_22 : decode cX8_sizeOf 22 = .ok (.iconst 1, 1) := by decide +kernel
theorem dX8_sizeOf_23 : decode cX8_sizeOf 23 = .ok (.ireturn, 1) := by decide +kernel
theorem dX8_cuts_0 : decode cX8_cuts 0 = .ok (.aload_n 0, 1) := by decide +kernel
theorem dX8_cuts_1 : decode cX8_cuts 1 = .ok (.iload_n 1, 1) := by decide +kernel
theorem dX8_cuts_2 : decode cX8_cuts 2 = .ok (.invokevirtual 128, 3) := by decide +kernel
theorem dX8_cuts_5 : decode cX8_cuts 5 = .ok (.istore_n 2, 1) := by decide +kernel
theorem dX8_cuts_6 : decode cX8_cuts 6 = .ok (.aload_n 0, 1) := by decide +kernel
theorem dX8_cuts_7 : decode cX8_cuts 7 = .ok (.getfield 19, 3) := by decide +kernel
theorem dX8_cuts_10 : decode cX8_cuts 10 = .ok (.iconst 0, 1) := by decide +kernel
theorem dX8_cuts_11 : decode cX8_cuts 11 = .ok (.iaload, 1) := by decide +kernel
theorem dX8_cuts_12 : decode cX8_cuts 12 = .ok (.iload_n 2, 1) := by decide +kernel
theorem dX8_cuts_13 : decode cX8_cuts 13 = .ok (.isub, 1) := by decide +kernel
theorem dX8_cuts_14 : decode cX8_cuts 14 = .ok (.istore_n 3, 1) := by decide +kernel
theorem dX8_cuts_15 : decode cX8_cuts 15 = .ok (.iconst 0, 1) := by decide +kernel
theorem dX8_cuts_16 : decode cX8_cuts 16 = .ok (.istore 4, 2) := by decide +kernel
theorem dX8_cuts_18 : decode cX8_cuts 18 = .ok (.iload 4, 2) := by decide +kernel
theorem dX8_cuts_20 : decode cX8_cuts 20 = .ok (.aload_n 0, 1) := by decide +kernel
theorem dX8_cuts_21 : decode cX8_cuts 21 = .ok (.getfield 19, 3) := by decide +kernel
theorem dX8_cuts_24 : decode cX8_cuts 24 = .ok (.iconst 0, 1) := by decide +kernel
theorem dX8_cuts_25 : decode cX8_cuts 25 = .ok (.iaload, 1) := by decide +kernel
theorem dX8_cuts_26 : decode cX8_cuts 26 = .ok (.if_icmp .ge 119, 3) := by decide +kernel
theorem dX8_cuts_29 : decode cX8_cuts 29 = .ok (.aload_n 0, 1) := by decide +kernel
theorem dX8_cuts_30 : decode cX8_cuts 30 = .ok (.iload 4, 2) := by decide +kernel
theorem dX8_cuts_32 : decode cX8_cuts 32 = .ok (.iconst 0, 1) := by decide +kernel
theorem dX8_cuts_33 : decode cX8_cuts 33 = .ok (.invokevirtual 124, 3) := by decide +kernel
theorem dX8_cuts_36 : decode cX8_cuts 36 = .ok (.iconst 3, 1) := by decide +kernel
theorem dX8_cuts_37 : decode cX8_cuts 37 = .ok (.if_icmp .lt 21, 3) := by decide +kernel
theorem dX8_cuts_40 : decode cX8_cuts 40 = .ok (.iload 4, 2) := by decide +kernel
theorem dX8_cuts_42 : decode cX8_cuts 42 = .ok (.iload_n 1, 1) := by decide +kernel
theorem dX8_cuts_43 : decode cX8_cuts 43 = .ok (.if_icmp .lt 11, 3) := by decide +kernel
theorem dX8_cuts_46 : decode cX8_cuts 46 = .ok (.iload 4, 2) := by decide +kernel
theorem dX8_cuts_48 : decode cX8_cuts 48 = .ok (.iload_n 1, 1) := by decide +kernel
theorem dX8_cuts_49 : decode cX8_cuts 49 = .ok (.iload_n 2, 1) := by decide +kernel
theorem dX8_cuts_50 : decode cX8_cuts 50 = .ok (.iadd, 1) := by decide +kernel
theorem dX8_cuts_51 : decode cX8_cuts 51 = .ok (.if_icmp .lt 7, 3) := by decide +kernel
theorem dX8_cuts_54 : decode cX8_cuts 54 = .ok (.iconst 1, 1) := by decide +kernel
theorem dX8_cuts_55 : decode cX8_cuts 55 = .ok (.goto 4, 3) := by decide +kernel
theorem dX8_cuts_58 : decode cX8_cuts 58 = .ok (.iconst 0, 1) := by decide +kernel
theorem dX8_cuts_59 : decode cX8_cuts 59 = .ok (.istore 5, 2) := by decide +kernel
theorem dX8_cuts_61 : decode cX8_cuts 61 = .ok (.iload 5, 2) := by decide +kernel
theorem dX8_cuts_63 : decode cX8_cuts 63 = .ok (.ifCond .eq 33, 3) := by decide +kernel
theorem dX8_cuts_66 : decode cX8_cuts 66 = .ok (.aload_n 0, 1) := by decide +kernel
theorem dX8_cuts_67 : decode cX8_cuts 67 = .ok (.iload 4, 2) := by decide +kernel
theorem dX8_cuts_69 : decode cX8_cuts 69 = .ok (.bipush 6, 2) := by decide +kernel
theorem dX8_cuts_71 : decode cX8_cuts 71 = .ok (.invokevirtual 124, 3) := by decide +kernel
theorem dX8_cuts_74 : decode cX8_cuts 74 = .ok (.iload_n 1, 1) := by decide +kernel
theorem dX8_cuts_75 : decode cX8_cuts 75 = .ok (.if_icmp .le 21, 3) := by decide +kernel
theorem dX8_cuts_78 : decode cX8_cuts 78 = .ok (.aload_n 0, 1) := by decide +kernel
theorem dX8_cuts_79 : decode cX8_cuts 79 = .ok (.iload 4, 2) := by decide +kernel
theorem dX8_cuts_81 : decode cX8_cuts 81 = .ok (.bipush 6, 2) := by decide +kernel
theorem dX8_cuts_83 : decode cX8_cuts 83 = .ok (.aload_n 0, 1) := by decide +kernel
theorem dX8_cuts_84 : decode cX8_cuts 84 = .ok (.iload 4, 2) := by decide +kernel
theorem dX8_cuts_86 : decode cX8_cuts 86 = .ok (.bipush 6, 2) := by decide +kernel
theorem dX8_cuts_88 : decode cX8_cuts 88 = .ok (.invokevirtual 124, 3) := by decide +kernel
theorem dX8_cuts_91 : decode cX8_cuts 91 = .ok (.iload_n 2, 1) := by decide +kernel
theorem dX8_cuts_92 : decode cX8_cuts 92 = .ok (.isub, 1) := by decide +kernel
theorem dX8_cuts_93 : decode cX8_cuts 93 = .ok (.invokevirtual 83, 3) := by decide +kernel
theorem dX8_cuts_96 : decode cX8_cuts 96 = .ok (.iload 5, 2) := by decide +kernel
theorem dX8_cuts_98 : decode cX8_cuts 98 = .ok (.ifCond .eq 41, 3) := by decide +kernel
theorem dX8_cuts_101 : decode cX8_cuts 101 = .ok (.aload_n 0, 1) := by decide +kernel
theorem dX8_cuts_102 : decode cX8_cuts 102 = .ok (.iload 4, 2) := by decide +kernel
theorem dX8_cuts_104 : decode cX8_cuts 104 = .ok (.iconst 0, 1) := by decide +kernel
theorem dX8_cuts_105 : decode cX8_cuts 105 = .ok (.invokevirtual 124, 3) := by decide +kernel
theorem dX8_cuts_108 : decode cX8_cuts 108 = .ok (.iconst 4, 1) := by decide +kernel
theorem dX8_cuts_109 : decode cX8_cuts 109 = .ok (.if_icmp .ne 30, 3) := by decide +kernel
theorem dX8_cuts_112 : decode cX8_cuts 112 = .ok (.aload_n 0, 1) := by decide +kernel
theorem dX8_cuts_113 : decode cX8_cuts 113 = .ok (.iload 4, 2) := by decide +kernel
theorem dX8_cuts_115 : decode cX8_cuts 115 = .ok (.iconst 5, 1) := by decide +kernel
theorem dX8_cuts_116 : decode cX8_cuts 116 = .ok (.invokevirtual 124, 3) := by decide +kernel
theorem dX8_cuts_119 : decode cX8_cuts 119 = .ok (.iload_n 1, 1) := by decide +kernel
theorem dX8_cuts_120 : decode cX8_cuts 120 = .ok (.if_icmp .le 19, 3) := by decide +kernel
theorem dX8_cuts_123 : decode cX8_cuts 123 = .ok (.aload_n 0, 1) := by decide +kernel
theorem dX8_cuts_124 : decode cX8_cuts 124 = .ok (.iload 4, 2) := by decide +kernel
theorem dX8_cuts_126 : decode cX8_cuts 126 = .ok (.iconst 5, 1) := by decide +kernel
theorem dX8_cuts_127 : decode cX8_cuts 127 = .ok (.aload_n 0, 1) := by decide +kernel
theorem dX8_cuts_128 : decode cX8_cuts 128 = .ok (.iload 4, 2) := by decide +kernel
theorem dX8_cuts_130 : decode cX8_cuts 130 = .ok (.iconst 5, 1) := by decide +kernel
theorem dX8_cuts_131 : decode cX8_cuts 131 = .ok (.invokevirtual 124, 3) := by decide +kernel
theorem dX8_cuts_134 : decode cX8_cuts 134 = .ok (.iload_n 2, 1) := by decide +kernel
theorem dX8_cuts_135 : decode cX8_cuts 135 = .ok (.isub, 1) := by decide +kernel
theorem dX8_cuts_136 : decode cX8_cuts 136 = .ok (.invokevirtual 83, 3) := by decide +kernel
theorem dX8_cuts_139 : decode cX8_cuts 139 = .ok (.iinc 4 1, 3) := by decide +kernel
theorem dX8_cuts_142 : decode cX8_cuts 142 = .ok (.goto (-124), 3) := by decide +kernel
theorem dX8_cuts_145 : decode cX8_cuts 145 = .ok (.iload_n 1, 1) := by decide +kernel
theorem dX8_cuts_146 : decode cX8_cuts 146 = .ok (.istore 4, 2) := by decide +kernel
theorem dX8_cuts_148 : decode cX8_cuts 148 = .ok (.iload 4, 2) := by decide +kernel
theorem dX8_cuts_150 : decode cX8_cuts 150 = .ok (.iload_n 3, 1) := by decide +kernel
theorem dX8_cuts_151 : decode cX8_cuts 151 = .ok (.if_icmp .ge 43, 3) := by decide +kernel
theorem dX8_cuts_154 : decode cX8_cuts 154 = .ok (.iconst 0, 1) := by decide +kernel
theorem dX8_cuts_155 : decode cX8_cuts 155 = .ok (.istore 5, 2) := by decide +kernel
theorem dX8_cuts_157 : decode cX8_cuts 157 = .ok (.iload 5, 2) := by decide +kernel
theorem dX8_cuts_159 : decode cX8_cuts 159 = .ok (.bipush 7, 2) := by decide +kernel
theorem dX8_cuts_161 : decode cX8_cuts 161 = .ok (.if_icmp .ge 27, 3) := by decide +kernel
theorem dX8_cuts_164 : decode cX8_cuts 164 = .ok (.aload_n 0, 1) := by decide +kernel
theorem dX8_cuts_165 : decode cX8_cuts 165 = .ok (.iload 4, 2) := by decide +kernel
theorem dX8_cuts_167 : decode cX8_cuts 167 = .ok (.iload 5, 2) := by decide +kernel
theorem dX8_cuts_169 : decode cX8_cuts 169 = .ok (.aload_n 0, 1) := by decide +kernel
theorem dX8_cuts_170 : decode cX8_cuts 170 = .ok (.iload 4, 2) := by decide +kernel
theorem dX8_cuts_172 : decode cX8_cuts 172 = .ok (.iload_n 2, 1) := by decide +kernel
theorem dX8_cuts_173 : decode cX8_cuts 173 = .ok (.iadd, 1) := by decide +kernel
theorem dX8_cuts_174 : decode cX8_cuts 174 = .ok (.iload 5, 2) := by decide +kernel
theorem dX8_cuts_176 : decode cX8_cuts 176 = .ok (.invokevirtual 124, 3) := by decide +kernel
theorem dX8_cuts_179 : decode cX8_cuts 179 = .ok (.invokevirtual 83, 3) := by decide +kernel
theorem dX8_cuts_182 : decode cX8_cuts 182 = .ok (.iinc 5 1, 3) := by decide +kernel
theorem dX8_cuts_185 : decode cX8_cuts 185 = .ok (.goto (-28), 3) := by decide +kernel
theorem dX8_cuts_188 : decode cX8_cuts 188 = .ok (.iinc 4 1, 3) := by decide +kernel
theorem dX8_cuts_191 : decode cX8_cuts 191 = .ok (.goto (-43), 3) := by decide +kernel
theorem dX8_cuts_194 : decode cX8_cuts 194 = .ok (.aload_n 0, 1) := by decide +kernel
theorem dX8_cuts_195 : decode cX8_cuts 195 = .ok (.getfield 19, 3) := by decide +kernel
theorem dX8_cuts_198 : decode cX8_cuts 198 = .ok (.iconst 0, 1) := by decide +kernel
theorem dX8_cuts_199 : decode cX8_cuts 199 = .ok (.iload_n 3, 1) := by decide +kernel
theorem dX8_cuts_200 : decode cX8_cuts 200 = .ok (.iastore, 1) := by decide +kernel
theorem dX8_cuts_201 : decode cX8_cuts 201 = .ok (.return_, 1) := by decide +kernel
theorem dX8_isStatement_0 : decode cX8_isStatement 0 = .ok (.iload_n 1, 1) := by decide +kernel
theorem dX8_isStatement_1 : decode cX8_isStatement 1 = .ok (.invokestatic 107, 3) := by decide +kernel
theorem dX8_isStatement_4 : decode cX8_isStatement 4 = .ok (.ifCond .eq 27, 3) := by decide +kernel
theorem dX8_isStatement_7 : decode cX8_isStatement 7 = .ok (.iload_n 2, 1) := by decide +kernel
theorem dX8_isStatement_8 : decode cX8_isStatement 8 = .ok (.iconst 0, 1) := by decide +kernel
theorem dX8_isStatement_9 : decode cX8_isStatement 9 = .ok (.aload_n 0, 1) := by decide +kernel
theorem dX8_isStatement_10 : decode cX8_isStatement 10 = .ok (.getfield 7, 3) := by decide +kernel
theorem dX8_isStatement_13 : decode cX8_isStatement 13 = .ok (.sipush 421, 3) := by decide +kernel
theorem dX8_isStatement_16 : decode cX8_isStatement 16 = .ok (.iload_n 1, 1) := by decide +kernel
theorem dX8_isStatement_17 : decode cX8_isStatement 17 = .ok (.imul, 1) := by decide +kernel
theorem dX8_isStatement_18 : decode cX8_isStatement 18 = .ok (.iaload, 1) := by decide +kernel
theorem dX8_isStatement_19 : decode cX8_isStatement 19 = .ok (.iconst 1, 1) := by decide +kernel
theorem dX8_isStatement_20 : decode cX8_isStatement 20 = .ok (.isub, 1) := by decide +kernel
theorem dX8_isStatement_21 : decode cX8_isStatement 21 = .ok (.invokestatic 61, 3) := by decide +kernel
theorem dX8_isStatement_24 : decode cX8_isStatement 24 = .ok (.ifCond .eq 7, 3) := by decide +kernel
theorem dX8_isStatement_27 : decode cX8_isStatement 27 = .ok (.iconst 1, 1) := by decide +kernel
theorem dX8_isStatement_28 : decode cX8_isStatement 28 = .ok (.goto 4, 3) := by decide +kernel
theorem dX8_isStatement_31 : decode cX8_isStatement 31 = .ok (.iconst 0, 1) := by decide +kernel
theorem dX8_isStatement_32 : decode cX8_isStatement 32 = .ok (.ireturn, 1) := by decide +kernel
theorem dX8_cut_0 : decode cX8_cut 0 = .ok (.aload_n 0, 1) := by decide +kernel
theorem dX8_cut_1 : decode cX8_cut 1 = .ok (.iload_n 1, 1) := by decide +kernel
theorem dX8_cut_2 : decode cX8_cut 2 = .ok (.iload_n 2, 1) := by decide +kernel
theorem dX8_cut_3 : decode cX8_cut 3 = .ok (.invokevirtual 131, 3) := by decide +kernel
theorem dX8_cut_6 : decode cX8_cut 6 = .ok (.ifCond .ne 7, 3) := by decide +kernel
theorem dX8_cut_9 : decode cX8_cut 9 = .ok (.sipush (-10001), 3) := by decide +kernel
theorem dX8_cut_12 : decode cX8_cut 12 = .ok (.ireturn, 1) := by decide +kernel
theorem dX8_cut_13 : decode cX8_cut 13 = .ok (.aload_n 0, 1) := by decide +kernel
theorem dX8_cut_14 : decode cX8_cut 14 = .ok (.invokevirtual 114, 3) := by decide +kernel
theorem dX8_cut_17 : decode cX8_cut 17 = .ok (.aload_n 0, 1) := by decide +kernel
theorem dX8_cut_18 : decode cX8_cut 18 = .ok (.iload_n 1, 1) := by decide +kernel
theorem dX8_cut_19 : decode cX8_cut 19 = .ok (.invokevirtual 121, 3) := by decide +kernel
theorem dX8_cut_22 : decode cX8_cut 22 = .ok (.aload_n 0, 1) := by decide +kernel
theorem dX8_cut_23 : decode cX8_cut 23 = .ok (.iload_n 2, 1) := by decide +kernel
theorem dX8_cut_24 : decode cX8_cut 24 = .ok (.invokevirtual 134, 3) := by decide +kernel
theorem dX8_cut_27 : decode cX8_cut 27 = .ok (.aload_n 0, 1) := by decide +kernel
theorem dX8_cut_28 : decode cX8_cut 28 = .ok (.iload_n 1, 1) := by decide +kernel
theorem dX8_cut_29 : decode cX8_cut 29 = .ok (.invokevirtual 117, 3) := by decide +kernel
theorem dX8_cut_32 : decode cX8_cut 32 = .ok (.aload_n 0, 1) := by decide +kernel
theorem dX8_cut_33 : decode cX8_cut 33 = .ok (.getfield 19, 3) := by decide +kernel
theorem dX8_cut_36 : decode cX8_cut 36 = .ok (.iconst 0, 1) := by decide +kernel
theorem dX8_cut_37 : decode cX8_cut 37 = .ok (.iaload, 1) := by decide +kernel
theorem dX8_cut_38 : decode cX8_cut 38 = .ok (.ireturn, 1) := by decide +kernel
theorem dX8_count_0 : decode cX8_count 0 = .ok (.iload_n 1, 1) := by decide +kernel
theorem dX8_count_1 : decode cX8_count 1 = .ok (.tableswitch 57 0 3 #[31, 38, 47, 52], 31) := by decide +kernel
theorem dX8_count_32 : decode cX8_count 32 = .ok (.aload_n 0, 1) := by decide +kernel
theorem dX8_count_33 : decode cX8_count 33 = .ok (.getfield 7, 3) := by decide +kernel
theorem dX8_count_36 : decode cX8_count 36 = .ok (.iconst 0, 1) := by decide +kernel
theorem dX8_count_37 : decode cX8_count 37 = .ok (.iaload, 1) := by decide +kernel
theorem dX8_count_38 : decode cX8_count 38 = .ok (.ireturn, 1) := by decide +kernel
theorem dX8_count_39 : decode cX8_count 39 = .ok (.aload_n 0, 1) := by decide +kernel
theorem dX8_count_40 : decode cX8_count 40 = .ok (.getfield 7, 3) := by decide +kernel
theorem dX8_count_43 : decode cX8_count 43 = .ok (.sipush 421, 3) := by decide +kernel
theorem dX8_count_46 : decode cX8_count 46 = .ok (.iaload, 1) := by decide +kernel
theorem dX8_count_47 : decode cX8_count 47 = .ok (.ireturn, 1) := by decide +kernel
theorem dX8_count_48 : decode cX8_count 48 = .ok (.aload_n 0, 1) := by decide +kernel
theorem dX8_count_49 : decode cX8_count 49 = .ok (.getfield 65, 3) := by decide +kernel
theorem dX8_count_52 : decode cX8_count 52 = .ok (.ireturn, 1) := by decide +kernel
theorem dX8_count_53 : decode cX8_count 53 = .ok (.aload_n 0, 1) := by decide +kernel
theorem dX8_count_54 : decode cX8_count 54 = .ok (.getfield 69, 3) := by decide +kernel
theorem dX8_count_57 : decode cX8_count 57 = .ok (.ireturn, 1) := by decide +kernel
theorem dX8_count_58 : decode cX8_count 58 = .ok (.sipush (-10001), 3) := by decide +kernel
theorem dX8_count_61 : decode cX8_count 61 = .ok (.ireturn, 1) := by decide +kernel
theorem dX8_ofKind_0 : decode cX8_ofKind 0 = .ok (.iconst 0, 1) := by decide +kernel
theorem dX8_ofKind_1 : decode cX8_ofKind 1 = .ok (.istore_n 2, 1) := by decide +kernel
theorem dX8_ofKind_2 : decode cX8_ofKind 2 = .ok (.iconst 0, 1) := by decide +kernel
theorem dX8_ofKind_3 : decode cX8_ofKind 3 = .ok (.istore_n 3, 1) := by decide +kernel
theorem dX8_ofKind_4 : decode cX8_ofKind 4 = .ok (.iload_n 3, 1) := by decide +kernel
theorem dX8_ofKind_5 : decode cX8_ofKind 5 = .ok (.aload_n 0, 1) := by decide +kernel
theorem dX8_ofKind_6 : decode cX8_ofKind 6 = .ok (.getfield 19, 3) := by decide +kernel
theorem dX8_ofKind_9 : decode cX8_ofKind 9 = .ok (.iconst 0, 1) := by decide +kernel
theorem dX8_ofKind_10 : decode cX8_ofKind 10 = .ok (.iaload, 1) := by decide +kernel
theorem dX8_ofKind_11 : decode cX8_ofKind 11 = .ok (.if_icmp .ge 27, 3) := by decide +kernel
theorem dX8_ofKind_14 : decode cX8_ofKind 14 = .ok (.iload_n 2, 1) := by decide +kernel
theorem dX8_ofKind_15 : decode cX8_ofKind 15 = .ok (.aload_n 0, 1) := by decide +kernel
theorem dX8_ofKind_16 : decode cX8_ofKind 16 = .ok (.iload_n 3, 1) := by decide +kernel
theorem dX8_ofKind_17 : decode cX8_ofKind 17 = .ok (.iconst 0, 1) := by decide +kernel
theorem dX8_ofKind_18 : decode cX8_ofKind 18 = .ok (.invokevirtual 124, 3) := by decide +kernel
theorem dX8_ofKind_21 : decode cX8_ofKind 21 = .ok (.iload_n 1, 1) := by decide +kernel
theorem dX8_ofKind_22 : decode cX8_ofKind 22 = .ok (.if_icmp .ne 7, 3) := by decide +kernel
theorem dX8_ofKind_25 : decode cX8_ofKind 25 = .ok (.iconst 1, 1) := by decide +kernel
theorem dX8_ofKind_26 : decode cX8_ofKind 26 = .ok (.goto 4, 3) := by decide +kernel
theorem dX8_ofKind_29 : decode cX8_ofKind 29 = .ok (.iconst 0, 1) := by decide +kernel
theorem dX8_ofKind_30 : decode cX8_ofKind 30 = .ok (.iadd, 1) := by decide +kernel
theorem dX8_ofKind_31 : decode cX8_ofKind 31 = .ok (.istore_n 2, 1) := by decide +kernel
theorem dX8_ofKind_32 : decode cX8_ofKind 32 = .ok (.iinc 3 1, 3) := by decide +kernel
theorem dX8_ofKind_35 : decode cX8_ofKind 35 = .ok (.goto (-31), 3) := by decide +kernel
theorem dX8_ofKind_38 : decode cX8_ofKind 38 = .ok (.iload_n 2, 1) := by decide +kernel
theorem dX8_ofKind_39 : decode cX8_ofKind 39 = .ok (.ireturn, 1) := by decide +kernel
theorem dX8_depthAll_0 : decode cX8_depthAll 0 = .ok (.iconst 0, 1) := by decide +kernel
theorem dX8_depthAll_1 : decode cX8_depthAll 1 = .ok (.istore_n 1, 1) := by decide +kernel
theorem dX8_depthAll_2 : decode cX8_depthAll 2 = .ok (.iconst 0, 1) := by decide +kernel
theorem dX8_depthAll_3 : decode cX8_depthAll 3 = .ok (.istore_n 2, 1) := by decide +kernel
theorem dX8_depthAll_4 : decode cX8_depthAll 4 = .ok (.iload_n 2, 1) := by decide +kernel
theorem dX8_depthAll_5 : decode cX8_depthAll 5 = .ok (.aload_n 0, 1) := by decide +kernel
theorem dX8_depthAll_6 : decode cX8_depthAll 6 = .ok (.getfield 19, 3) := by decide +kernel
theorem dX8_depthAll_9 : decode cX8_depthAll 9 = .ok (.iconst 0, 1) := by decide +kernel
theorem dX8_depthAll_10 : decode cX8_depthAll 10 = .ok (.iaload, 1) := by decide +kernel
theorem dX8_depthAll_11 : decode cX8_depthAll 11 = .ok (.if_icmp .ge 92, 3) := by decide +kernel
theorem dX8_depthAll_14 : decode cX8_depthAll 14 = .ok (.aload_n 0, 1) := by decide +kernel
theorem dX8_depthAll_15 : decode cX8_depthAll 15 = .ok (.iload_n 2, 1) := by decide +kernel
theorem dX8_depthAll_16 : decode cX8_depthAll 16 = .ok (.iconst 0, 1) := by decide +kernel
theorem dX8_depthAll_17 : decode cX8_depthAll 17 = .ok (.invokevirtual 124, 3) := by decide +kernel
theorem dX8_depthAll_20 : decode cX8_depthAll 20 = .ok (.iconst 3, 1) := by decide +kernel
theorem dX8_depthAll_21 : decode cX8_depthAll 21 = .ok (.if_icmp .lt 7, 3) := by decide +kernel
theorem dX8_depthAll_24 : decode cX8_depthAll 24 = .ok (.iconst 1, 1) := by decide +kernel
theorem dX8_depthAll_25 : decode cX8_depthAll 25 = .ok (.goto 4, 3) := by decide +kernel
theorem dX8_depthAll_28 : decode cX8_depthAll 28 = .ok (.iconst 0, 1) := by decide +kernel
theorem dX8_depthAll_29 : decode cX8_depthAll 29 = .ok (.istore_n 3, 1) := by decide +kernel
theorem dX8_depthAll_30 : decode cX8_depthAll 30 = .ok (.iconst 0, 1) := by decide +kernel
theorem dX8_depthAll_31 : decode cX8_depthAll 31 = .ok (.istore 4, 2) := by decide +kernel
theorem dX8_depthAll_33 : decode cX8_depthAll 33 = .ok (.iload 4, 2) := by decide +kernel
theorem dX8_depthAll_35 : decode cX8_depthAll 35 = .ok (.iload_n 2, 1) := by decide +kernel
theorem dX8_depthAll_36 : decode cX8_depthAll 36 = .ok (.if_icmp .ge 50, 3) := by decide +kernel
theorem dX8_depthAll_39 : decode cX8_depthAll 39 = .ok (.iload_n 3, 1) := by decide +kernel
theorem dX8_depthAll_40 : decode cX8_depthAll 40 = .ok (.aload_n 0, 1) := by decide +kernel
theorem dX8_depthAll_41 : decode cX8_depthAll 41 = .ok (.iload_n 2, 1) := by decide +kernel
theorem dX8_depthAll_42 : decode cX8_depthAll 42 = .ok (.iconst 0, 1) := by decide +kernel
theorem dX8_depthAll_43 : decode cX8_depthAll 43 = .ok (.invokevirtual 124, 3) := by decide +kernel
theorem dX8_depthAll_46 : decode cX8_depthAll 46 = .ok (.iconst 3, 1) := by decide +kernel
theorem dX8_depthAll_47 : decode cX8_depthAll 47 = .ok (.if_icmp .lt 30, 3) := by decide +kernel
theorem dX8_depthAll_50 : decode cX8_depthAll 50 = .ok (.aload_n 0, 1) := by decide +kernel
theorem dX8_depthAll_51 : decode cX8_depthAll 51 = .ok (.iload 4, 2) := by decide +kernel
theorem dX8_depthAll_53 : decode cX8_depthAll 53 = .ok (.iconst 0, 1) := by decide +kernel
theorem dX8_depthAll_54 : decode cX8_depthAll 54 = .ok (.invokevirtual 124, 3) := by decide +kernel
theorem dX8_depthAll_57 : decode cX8_depthAll 57 = .ok (.iconst 3, 1) := by decide +kernel
theorem dX8_depthAll_58 : decode cX8_depthAll 58 = .ok (.if_icmp .lt 19, 3) := by decide +kernel
theorem dX8_depthAll_61 : decode cX8_depthAll 61 = .ok (.aload_n 0, 1) := by decide +kernel
theorem dX8_depthAll_62 : decode cX8_depthAll 62 = .ok (.iload 4, 2) := by decide +kernel
theorem dX8_depthAll_64 : decode cX8_depthAll 64 = .ok (.bipush 6, 2) := by decide +kernel
theorem dX8_depthAll_66 : decode cX8_depthAll 66 = .ok (.invokevirtual 124, 3) := by decide +kernel
theorem dX8_depthAll_69 : decode cX8_depthAll 69 = .ok (.iload_n 2, 1) := by decide +kernel
theorem dX8_depthAll_70 : decode cX8_depthAll 70 = .ok (.if_icmp .le 7, 3) := by decide +kernel
theorem dX8_depthAll_73 : decode cX8_depthAll 73 = .ok (.iconst 1, 1) := by decide +kernel
theorem dX8_depthAll_74 : decode cX8_depthAll 74 = .ok (.goto 4, 3) := by decide +kernel
theorem dX8_depthAll_77 : decode cX8_depthAll 77 = .ok (.iconst 0, 1) := by decide +kernel
theorem dX8_depthAll_78 : decode cX8_depthAll 78 = .ok (.iadd, 1) := by decide +kernel
theorem dX8_depthAll_79 : decode cX8_depthAll 79 = .ok (.istore_n 3, 1) := by decide +kernel
theorem dX8_depthAll_80 : decode cX8_depthAll 80 = .ok (.iinc 4 1, 3) := by decide +kernel
theorem dX8_depthAll_83 : decode cX8_depthAll 83 = .ok (.goto (-50), 3) := by decide +kernel
theorem dX8_depthAll_86 : decode cX8_depthAll 86 = .ok (.iload_n 3, 1) := by decide +kernel
theorem dX8_depthAll_87 : decode cX8_depthAll 87 = .ok (.iload_n 1, 1) := by decide +kernel
theorem dX8_depthAll_88 : decode cX8_depthAll 88 = .ok (.if_icmp .le 7, 3) := by decide +kernel
theorem dX8_depthAll_91 : decode cX8_depthAll 91 = .ok (.iload_n 3, 1) := by decide +kernel
theorem dX8_depthAll_92 : decode cX8_depthAll 92 = .ok (.goto 4, 3) := by decide +kernel
theorem dX8_depthAll_95 : decode cX8_depthAll 95 = .ok (.iload_n 1, 1) := by decide +kernel
theorem dX8_depthAll_96 : decode cX8_depthAll 96 = .ok (.istore_n 1, 1) := by decide +kernel
theorem dX8_depthAll_97 : decode cX8_depthAll 97 = .ok (.iinc 2 1, 3) := by decide +kernel
theorem dX8_depthAll_100 : decode cX8_depthAll 100 = .ok (.goto (-96), 3) := by decide +kernel
theorem dX8_depthAll_103 : decode cX8_depthAll 103 = .ok (.iload_n 1, 1) := by decide +kernel
theorem dX8_depthAll_104 : decode cX8_depthAll 104 = .ok (.ireturn, 1) := by decide +kernel
theorem dX8_canSet_0 : decode cX8_canSet 0 = .ok (.iconst 0, 1) := by decide +kernel
theorem dX8_canSet_1 : decode cX8_canSet 1 = .ok (.istore_n 1, 1) := by decide +kernel
theorem dX8_canSet_2 : decode cX8_canSet 2 = .ok (.iconst 0, 1) := by decide +kernel
theorem dX8_canSet_3 : decode cX8_canSet 3 = .ok (.istore_n 2, 1) := by decide +kernel
theorem dX8_canSet_4 : decode cX8_canSet 4 = .ok (.iload_n 2, 1) := by decide +kernel
theorem dX8_canSet_5 : decode cX8_canSet 5 = .ok (.aload_n 0, 1) := by decide +kernel
theorem dX8_canSet_6 : decode cX8_canSet 6 = .ok (.getfield 19, 3) := by decide +kernel
theorem dX8_canSet_9 : decode cX8_canSet 9 = .ok (.iconst 0, 1) := by decide +kernel
theorem dX8_canSet_10 : decode cX8_canSet 10 = .ok (.iaload, 1) := by decide +kernel
theorem dX8_canSet_11 : decode cX8_canSet 11 = .ok (.if_icmp .ge 33, 3) := by decide +kernel
theorem dX8_canSet_14 : decode cX8_canSet 14 = .ok (.iload_n 1, 1) := by decide +kernel
theorem dX8_canSet_15 : decode cX8_canSet 15 = .ok (.aload_n 0, 1) := by decide +kernel
theorem dX8_canSet_16 : decode cX8_canSet 16 = .ok (.iload_n 2, 1) := by decide +kernel
theorem dX8_canSet_17 : decode cX8_canSet 17 = .ok (.iconst 0, 1) := by decide +kernel
theorem dX8_canSet_18 : decode cX8_canSet 18 = .ok (.invokevirtual 124, 3) := by decide +kernel
theorem dX8_canSet_21 : decode cX8_canSet 21 = .ok (.ifCond .ne 14, 3) := by decide +kernel
theorem dX8_canSet_24 : decode cX8_canSet 24 = .ok (.iconst 1, 1) := by decide +kernel
theorem dX8_canSet_25 : decode cX8_canSet 25 = .ok (.aload_n 0, 1) := by decide +kernel
theorem dX8_canSet_26 : decode cX8_canSet 26 = .ok (.iload_n 2, 1) := by decide +kernel
theorem dX8_canSet_27 : decode cX8_canSet 27 = .ok (.iconst 1, 1) := by decide +kernel
theorem dX8_canSet_28 : decode cX8_canSet 28 = .ok (.invokevirtual 124, 3) := by decide +kernel
theorem dX8_canSet_31 : decode cX8_canSet 31 = .ok (.ishl, 1) := by decide +kernel
theorem dX8_canSet_32 : decode cX8_canSet 32 = .ok (.goto 4, 3) := by decide +kernel
theorem dX8_canSet_35 : decode cX8_canSet 35 = .ok (.iconst 0, 1) := by decide +kernel
theorem dX8_canSet_36 : decode cX8_canSet 36 = .ok (.ior, 1) := by decide +kernel
theorem dX8_canSet_37 : decode cX8_canSet 37 = .ok (.istore_n 1, 1) := by decide +kernel
theorem dX8_canSet_38 : decode cX8_canSet 38 = .ok (.iinc 2 1, 3) := by decide +kernel
theorem dX8_canSet_41 : decode cX8_canSet 41 = .ok (.goto (-37), 3) := by decide +kernel
theorem dX8_canSet_44 : decode cX8_canSet 44 = .ok (.iload_n 1, 1) := by decide +kernel
theorem dX8_canSet_45 : decode cX8_canSet 45 = .ok (.ireturn, 1) := by decide +kernel
theorem dX8_program_0 : decode cX8_program 0 = .ok (.iload_n 1, 1) := by decide +kernel
theorem dX8_program_1 : decode cX8_program 1 = .ok (.invokestatic 107, 3) := by decide +kernel
theorem dX8_program_4 : decode cX8_program 4 = .ok (.ifCond .eq 13, 3) := by decide +kernel
theorem dX8_program_7 : decode cX8_program 7 = .ok (.iload_n 2, 1) := by decide +kernel
theorem dX8_program_8 : decode cX8_program 8 = .ok (.iconst 0, 1) := by decide +kernel
theorem dX8_program_9 : decode cX8_program 9 = .ok (.bipush 7, 2) := by decide +kernel
theorem dX8_program_11 : decode cX8_program 11 = .ok (.invokestatic 61, 3) := by decide +kernel
theorem dX8_program_14 : decode cX8_program 14 = .ok (.ifCond .ne 7, 3) := by decide +kernel
theorem dX8_program_17 : decode cX8_program 17 = .ok (.sipush (-10001), 3) := by decide +kernel
theorem dX8_program_20 : decode cX8_program 20 = .ok (.ireturn, 1) := by decide +kernel
theorem dX8_program_21 : decode cX8_program 21 = .ok (.aload_n 0, 1) := by decide +kernel
theorem dX8_program_22 : decode cX8_program 22 = .ok (.iload_n 1, 1) := by decide +kernel
theorem dX8_program_23 : decode cX8_program 23 = .ok (.invokevirtual 121, 3) := by decide +kernel
theorem dX8_program_26 : decode cX8_program 26 = .ok (.iload_n 2, 1) := by decide +kernel
theorem dX8_program_27 : decode cX8_program 27 = .ok (.ifCond .ne 12, 3) := by decide +kernel
theorem dX8_program_30 : decode cX8_program 30 = .ok (.aload_n 0, 1) := by decide +kernel
theorem dX8_program_31 : decode cX8_program 31 = .ok (.getfield 19, 3) := by decide +kernel
theorem dX8_program_34 : decode cX8_program 34 = .ok (.iconst 0, 1) := by decide +kernel
theorem dX8_program_35 : decode cX8_program 35 = .ok (.iaload, 1) := by decide +kernel
theorem dX8_program_36 : decode cX8_program 36 = .ok (.goto 36, 3) := by decide +kernel
theorem dX8_program_39 : decode cX8_program 39 = .ok (.iload_n 2, 1) := by decide +kernel
theorem dX8_program_40 : decode cX8_program 40 = .ok (.bipush 6, 2) := by decide +kernel
theorem dX8_program_42 : decode cX8_program 42 = .ok (.if_icmp .ne 10, 3) := by decide +kernel
theorem dX8_program_45 : decode cX8_program 45 = .ok (.aload_n 0, 1) := by decide +kernel
theorem dX8_program_46 : decode cX8_program 46 = .ok (.invokevirtual 137, 3) := by decide +kernel
theorem dX8_program_49 : decode cX8_program 49 = .ok (.goto 23, 3) := by decide +kernel
theorem dX8_program_52 : decode cX8_program 52 = .ok (.iload_n 2, 1) := by decide +kernel
theorem dX8_program_53 : decode cX8_program 53 = .ok (.bipush 7, 2) := by decide +kernel
theorem dX8_program_55 : decode cX8_program 55 = .ok (.if_icmp .ne 10, 3) := by decide +kernel
theorem dX8_program_58 : decode cX8_program 58 = .ok (.aload_n 0, 1) := by decide +kernel
theorem dX8_program_59 : decode cX8_program 59 = .ok (.invokevirtual 140, 3) := by decide +kernel
theorem dX8_program_62 : decode cX8_program 62 = .ok (.goto 10, 3) := by decide +kernel
theorem dX8_program_65 : decode cX8_program 65 = .ok (.aload_n 0, 1) := by decide +kernel
theorem dX8_program_66 : decode cX8_program 66 = .ok (.iload_n 2, 1) := by decide +kernel
theorem dX8_program_67 : decode cX8_program 67 = .ok (.iconst 1, 1) := by decide +kernel
theorem dX8_program_68 : decode cX8_program 68 = .ok (.isub, 1) := by decide +kernel
theorem dX8_program_69 : decode cX8_program 69 = .ok (.invokevirtual 143, 3) := by decide +kernel
theorem dX8_program_72 : decode cX8_program 72 = .ok (.ireturn, 1) := by decide +kernel
theorem dX8_term_0 : decode cX8_term 0 = .ok (.iload_n 2, 1) := by decide +kernel
theorem dX8_term_1 : decode cX8_term 1 = .ok (.bipush 10, 2) := by decide +kernel
theorem dX8_term_3 : decode cX8_term 3 = .ok (.if_icmp .ge 17, 3) := by decide +kernel
theorem dX8_term_6 : decode cX8_term 6 = .ok (.aload_n 0, 1) := by decide +kernel
theorem dX8_term_7 : decode cX8_term 7 = .ok (.getfield 28, 3) := by decide +kernel
theorem dX8_term_10 : decode cX8_term 10 = .ok (.bipush 6, 2) := by decide +kernel
theorem dX8_term_12 : decode cX8_term 12 = .ok (.iload_n 1, 1) := by decide +kernel
theorem dX8_term_13 : decode cX8_term 13 = .ok (.imul, 1) := by decide +kernel
theorem dX8_term_14 : decode cX8_term 14 = .ok (.iload_n 2, 1) := by decide +kernel
theorem dX8_term_15 : decode cX8_term 15 = .ok (.iadd, 1) := by decide +kernel
theorem dX8_term_16 : decode cX8_term 16 = .ok (.iaload, 1) := by decide +kernel
theorem dX8_term_17 : decode cX8_term 17 = .ok (.goto 7, 3) := by decide +kernel
theorem dX8_term_20 : decode cX8_term 20 = .ok (.iload_n 2, 1) := by decide +kernel
theorem dX8_term_21 : decode cX8_term 21 = .ok (.bipush 10, 2) := by decide +kernel
theorem dX8_term_23 : decode cX8_term 23 = .ok (.isub, 1) := by decide +kernel
theorem dX8_term_24 : decode cX8_term 24 = .ok (.ireturn, 1) := by decide +kernel
theorem dX8_held_0 : decode cX8_held 0 = .ok (.iload_n 0, 1) := by decide +kernel
theorem dX8_held_1 : decode cX8_held 1 = .ok (.sipush (-999), 3) := by decide +kernel
theorem dX8_held_4 : decode cX8_held 4 = .ok (.if_icmp .ge 9, 3) := by decide +kernel
theorem dX8_held_7 : decode cX8_held 7 = .ok (.sipush (-999), 3) := by decide +kernel
theorem dX8_held_10 : decode cX8_held 10 = .ok (.goto 17, 3) := by decide +kernel
theorem dX8_held_13 : decode cX8_held 13 = .ok (.iload_n 0, 1) := by decide +kernel
theorem dX8_held_14 : decode cX8_held 14 = .ok (.sipush 999, 3) := by decide +kernel
theorem dX8_held_17 : decode cX8_held 17 = .ok (.if_icmp .le 9, 3) := by decide +kernel
theorem dX8_held_20 : decode cX8_held 20 = .ok (.sipush 999, 3) := by decide +kernel
theorem dX8_held_23 : decode cX8_held 23 = .ok (.goto 4, 3) := by decide +kernel
theorem dX8_held_26 : decode cX8_held 26 = .ok (.iload_n 0, 1) := by decide +kernel
theorem dX8_held_27 : decode cX8_held 27 = .ok (.ireturn, 1) := by decide +kernel
theorem dX8_sets_0 : decode cX8_sets 0 = .ok (.aload_n 0, 1) := by decide +kernel
theorem dX8_sets_1 : decode cX8_sets 1 = .ok (.iload_n 1, 1) := by decide +kernel
theorem dX8_sets_2 : decode cX8_sets 2 = .ok (.aload_n 0, 1) := by decide +kernel
theorem dX8_sets_3 : decode cX8_sets 3 = .ok (.iload_n 2, 1) := by decide +kernel
theorem dX8_sets_4 : decode cX8_sets 4 = .ok (.iconst 3, 1) := by decide +kernel
theorem dX8_sets_5 : decode cX8_sets 5 = .ok (.invokevirtual 124, 3) := by decide +kernel
theorem dX8_sets_8 : decode cX8_sets 8 = .ok (.invokevirtual 146, 3) := by decide +kernel
theorem dX8_sets_11 : decode cX8_sets 11 = .ok (.istore_n 3, 1) := by decide +kernel
theorem dX8_sets_12 : decode cX8_sets 12 = .ok (.aload_n 0, 1) := by decide +kernel
theorem dX8_sets_13 : decode cX8_sets 13 = .ok (.iload_n 2, 1) := by decide +kernel
theorem dX8_sets_14 : decode cX8_sets 14 = .ok (.iconst 2, 1) := by decide +kernel
theorem dX8_sets_15 : decode cX8_sets 15 = .ok (.invokevirtual 124, 3) := by decide +kernel
theorem dX8_sets_18 : decode cX8_sets 18 = .ok (.istore 4, 2) := by decide +kernel
theorem dX8_sets_20 : decode cX8_sets 20 = .ok (.iload 4, 2) := by decide +kernel
theorem dX8_sets_22 : decode cX8_sets 22 = .ok (.ifCond .ne 7, 3) := by decide +kernel
theorem dX8_sets_25 : decode cX8_sets 25 = .ok (.iconst 0, 1) := by decide +kernel
theorem dX8_sets_26 : decode cX8_sets 26 = .ok (.goto 14, 3) := by decide +kernel
theorem dX8_sets_29 : decode cX8_sets 29 = .ok (.aload_n 0, 1) := by decide +kernel
theorem dX8_sets_30 : decode cX8_sets 30 = .ok (.iload_n 1, 1) := by decide +kernel
theorem dX8_sets_31 : decode cX8_sets 31 = .ok (.aload_n 0, 1) := by decide +kernel
theorem dX8_sets_32 : decode cX8_sets 32 = .ok (.iload_n 2, 1) := by decide +kernel
theorem dX8_sets_33 : decode cX8_sets 33 = .ok (.iconst 4, 1) := by decide +kernel
theorem dX8_sets_34 : decode cX8_sets 34 = .ok (.invokevirtual 124, 3) := by decide +kernel
theorem dX8_sets_37 : decode cX8_sets 37 = .ok (.invokevirtual 146, 3) := by decide +kernel
theorem dX8_sets_40 : decode cX8_sets 40 = .ok (.istore 5, 2) := by decide +kernel
theorem dX8_sets_42 : decode cX8_sets 42 = .ok (.iload 4, 2) := by decide +kernel
theorem dX8_sets_44 : decode cX8_sets 44 = .ok (.ifCond .ne 7, 3) := by decide +kernel
theorem dX8_sets_47 : decode cX8_sets 47 = .ok (.iload_n 3, 1) := by decide +kernel
theorem dX8_sets_48 : decode cX8_sets 48 = .ok (.goto 35, 3) := by decide +kernel
theorem dX8_sets_51 : decode cX8_sets 51 = .ok (.iload 4, 2) := by decide +kernel
theorem dX8_sets_53 : decode cX8_sets 53 = .ok (.bipush 43, 2) := by decide +kernel
theorem dX8_sets_55 : decode cX8_sets 55 = .ok (.if_icmp .ne 10, 3) := by decide +kernel
theorem dX8_sets_58 : decode cX8_sets 58 = .ok (.iload_n 3, 1) := by decide +kernel
theorem dX8_sets_59 : decode cX8_sets 59 = .ok (.iload 5, 2) := by decide +kernel
theorem dX8_sets_61 : decode cX8_sets 61 = .ok (.iadd, 1) := by decide +kernel
theorem dX8_sets_62 : decode cX8_sets 62 = .ok (.goto 21, 3) := by decide +kernel
theorem dX8_sets_65 : decode cX8_sets 65 = .ok (.iload 4, 2) := by decide +kernel
theorem dX8_sets_67 : decode cX8_sets 67 = .ok (.bipush 45, 2) := by decide +kernel
theorem dX8_sets_69 : decode cX8_sets 69 = .ok (.if_icmp .ne 10, 3) := by decide +kernel
theorem dX8_sets_72 : decode cX8_sets 72 = .ok (.iload_n 3, 1) := by decide +kernel
theorem dX8_sets_73 : decode cX8_sets 73 = .ok (.iload 5, 2) := by decide +kernel
theorem dX8_sets_75 : decode cX8_sets 75 = .ok (.isub, 1) := by decide +kernel
theorem dX8_sets_76 : decode cX8_sets 76 = .ok (.goto 7, 3) := by decide +kernel
theorem dX8_sets_79 : decode cX8_sets 79 = .ok (.iload_n 3, 1) := by decide +kernel
theorem dX8_sets_80 : decode cX8_sets 80 = .ok (.iload 5, 2) := by decide +kernel
theorem dX8_sets_82 : decode cX8_sets 82 = .ok (.imul, 1) := by decide +kernel
theorem dX8_sets_83 : decode cX8_sets 83 = .ok (.istore 6, 2) := by decide +kernel
theorem dX8_sets_85 : decode cX8_sets 85 = .ok (.aload_n 0, 1) := by decide +kernel
theorem dX8_sets_86 : decode cX8_sets 86 = .ok (.getfield 28, 3) := by decide +kernel
theorem dX8_sets_89 : decode cX8_sets 89 = .ok (.bipush 6, 2) := by decide +kernel
theorem dX8_sets_91 : decode cX8_sets 91 = .ok (.iload_n 1, 1) := by decide +kernel
theorem dX8_sets_92 : decode cX8_sets 92 = .ok (.imul, 1) := by decide +kernel
theorem dX8_sets_93 : decode cX8_sets 93 = .ok (.aload_n 0, 1) := by decide +kernel
theorem dX8_sets_94 : decode cX8_sets 94 = .ok (.iload_n 2, 1) := by decide +kernel
theorem dX8_sets_95 : decode cX8_sets 95 = .ok (.iconst 1, 1) := by decide +kernel
theorem dX8_sets_96 : decode cX8_sets 96 = .ok (.invokevirtual 124, 3) := by decide +kernel
theorem dX8_sets_99 : decode cX8_sets 99 = .ok (.iadd, 1) := by decide +kernel
theorem dX8_sets_100 : decode cX8_sets 100 = .ok (.iload 6, 2) := by decide +kernel
theorem dX8_sets_102 : decode cX8_sets 102 = .ok (.invokestatic 149, 3) := by decide +kernel
theorem dX8_sets_105 : decode cX8_sets 105 = .ok (.iastore, 1) := by decide +kernel
theorem dX8_sets_106 : decode cX8_sets 106 = .ok (.return_, 1) := by decide +kernel
theorem dX8_tellsCell_0 : decode cX8_tellsCell 0 = .ok (.aload_n 0, 1) := by decide +kernel
theorem dX8_tellsCell_1 : decode cX8_tellsCell 1 = .ok (.getfield 40, 3) := by decide +kernel
theorem dX8_tellsCell_4 : decode cX8_tellsCell 4 = .ok (.bipush 6, 2) := by decide +kernel
theorem dX8_tellsCell_6 : decode cX8_tellsCell 6 = .ok (.iload_n 1, 1) := by decide +kernel
theorem dX8_tellsCell_7 : decode cX8_tellsCell 7 = .ok (.imul, 1) := by decide +kernel
theorem dX8_tellsCell_8 : decode cX8_tellsCell 8 = .ok (.iconst 2, 1) := by decide +kernel
theorem dX8_tellsCell_9 : decode cX8_tellsCell 9 = .ok (.iadd, 1) := by decide +kernel
theorem dX8_tellsCell_10 : decode cX8_tellsCell 10 = .ok (.iaload, 1) := by decide +kernel
theorem dX8_tellsCell_11 : decode cX8_tellsCell 11 = .ok (.istore_n 3, 1) := by decide +kernel
theorem dX8_tellsCell_12 : decode cX8_tellsCell 12 = .ok (.iload_n 3, 1) := by decide +kernel
theorem dX8_tellsCell_13 : decode cX8_tellsCell 13 = .ok (.bipush 40, 2) := by decide +kernel
theorem dX8_tellsCell_15 : decode cX8_tellsCell 15 = .ok (.if_icmp .ge 30, 3) := by decide +kernel
theorem dX8_tellsCell_18 : decode cX8_tellsCell 18 = .ok (.aload_n 0, 1) := by decide +kernel
theorem dX8_tellsCell_19 : decode cX8_tellsCell 19 = .ok (.getfield 31, 3) := by decide +kernel
theorem dX8_tellsCell_22 : decode cX8_tellsCell 22 = .ok (.bipush 40, 2) := by decide +kernel
theorem dX8_tellsCell_24 : decode cX8_tellsCell 24 = .ok (.iload_n 1, 1) := by decide +kernel
theorem dX8_tellsCell_25 : decode cX8_tellsCell 25 = .ok (.imul, 1) := by decide +kernel
theorem dX8_tellsCell_26 : decode cX8_tellsCell 26 = .ok (.iload_n 3, 1) := by decide +kernel
theorem dX8_tellsCell_27 : decode cX8_tellsCell 27 = .ok (.iadd, 1) := by decide +kernel
theorem dX8_tellsCell_28 : decode cX8_tellsCell 28 = .ok (.aload_n 0, 1) := by decide +kernel
theorem dX8_tellsCell_29 : decode cX8_tellsCell 29 = .ok (.getfield 28, 3) := by decide +kernel
theorem dX8_tellsCell_32 : decode cX8_tellsCell 32 = .ok (.bipush 6, 2) := by decide +kernel
theorem dX8_tellsCell_34 : decode cX8_tellsCell 34 = .ok (.iload_n 1, 1) := by decide +kernel
theorem dX8_tellsCell_35 : decode cX8_tellsCell 35 = .ok (.imul, 1) := by decide +kernel
theorem dX8_tellsCell_36 : decode cX8_tellsCell 36 = .ok (.aload_n 0, 1) := by decide +kernel
theorem dX8_tellsCell_37 : decode cX8_tellsCell 37 = .ok (.iload_n 2, 1) := by decide +kernel
theorem dX8_tellsCell_38 : decode cX8_tellsCell 38 = .ok (.iconst 1, 1) := by decide +kernel
theorem dX8_tellsCell_39 : decode cX8_tellsCell 39 = .ok (.invokevirtual 124, 3) := by decide +kernel
theorem dX8_tellsCell_42 : decode cX8_tellsCell 42 = .ok (.iadd, 1) := by decide +kernel
theorem dX8_tellsCell_43 : decode cX8_tellsCell 43 = .ok (.iaload, 1) := by decide +kernel
theorem dX8_tellsCell_44 : decode cX8_tellsCell 44 = .ok (.iastore, 1) := by decide +kernel
theorem dX8_tellsCell_45 : decode cX8_tellsCell 45 = .ok (.aload_n 0, 1) := by decide +kernel
theorem dX8_tellsCell_46 : decode cX8_tellsCell 46 = .ok (.getfield 40, 3) := by decide +kernel
theorem dX8_tellsCell_49 : decode cX8_tellsCell 49 = .ok (.bipush 6, 2) := by decide +kernel
theorem dX8_tellsCell_51 : decode cX8_tellsCell 51 = .ok (.iload_n 1, 1) := by decide +kernel
theorem dX8_tellsCell_52 : decode cX8_tellsCell 52 = .ok (.imul, 1) := by decide +kernel
theorem dX8_tellsCell_53 : decode cX8_tellsCell 53 = .ok (.iconst 2, 1) := by decide +kernel
theorem dX8_tellsCell_54 : decode cX8_tellsCell 54 = .ok (.iadd, 1) := by decide +kernel
theorem dX8_tellsCell_55 : decode cX8_tellsCell 55 = .ok (.dup2, 1) := by decide +kernel
theorem dX8_tellsCell_56 : decode cX8_tellsCell 56 = .ok (.iaload, 1) := by decide +kernel
theorem dX8_tellsCell_57 : decode cX8_tellsCell 57 = .ok (.iconst 1, 1) := by decide +kernel
theorem dX8_tellsCell_58 : decode cX8_tellsCell 58 = .ok (.iadd, 1) := by decide +kernel
theorem dX8_tellsCell_59 : decode cX8_tellsCell 59 = .ok (.iastore, 1) := by decide +kernel
theorem dX8_tellsCell_60 : decode cX8_tellsCell 60 = .ok (.return_, 1) := by decide +kernel
theorem dX8_marks_0 : decode cX8_marks 0 = .ok (.aload_n 0, 1) := by decide +kernel
theorem dX8_marks_1 : decode cX8_marks 1 = .ok (.getfield 40, 3) := by decide +kernel
theorem dX8_marks_4 : decode cX8_marks 4 = .ok (.bipush 6, 2) := by decide +kernel
theorem dX8_marks_6 : decode cX8_marks 6 = .ok (.iload_n 1, 1) := by decide +kernel
theorem dX8_marks_7 : decode cX8_marks 7 = .ok (.imul, 1) := by decide +kernel
theorem dX8_marks_8 : decode cX8_marks 8 = .ok (.iconst 3, 1) := by decide +kernel
theorem dX8_marks_9 : decode cX8_marks 9 = .ok (.iadd, 1) := by decide +kernel
theorem dX8_marks_10 : decode cX8_marks 10 = .ok (.iaload, 1) := by decide +kernel
theorem dX8_marks_11 : decode cX8_marks 11 = .ok (.istore_n 2, 1) := by decide +kernel
theorem dX8_marks_12 : decode cX8_marks 12 = .ok (.iload_n 2, 1) := by decide +kernel
theorem dX8_marks_13 : decode cX8_marks 13 = .ok (.bipush 40, 2) := by decide +kernel
theorem dX8_marks_15 : decode cX8_marks 15 = .ok (.if_icmp .ge 67, 3) := by decide +kernel
theorem dX8_marks_18 : decode cX8_marks 18 = .ok (.aload_n 0, 1) := by decide +kernel
theorem dX8_marks_19 : decode cX8_marks 19 = .ok (.getfield 34, 3) := by decide +kernel
theorem dX8_marks_22 : decode cX8_marks 22 = .ok (.bipush 40, 2) := by decide +kernel
theorem dX8_marks_24 : decode cX8_marks 24 = .ok (.iload_n 1, 1) := by decide +kernel
theorem dX8_marks_25 : decode cX8_marks 25 = .ok (.imul, 1) := by decide +kernel
theorem dX8_marks_26 : decode cX8_marks 26 = .ok (.iload_n 2, 1) := by decide +kernel
theorem dX8_marks_27 : decode cX8_marks 27 = .ok (.iadd, 1) := by decide +kernel
theorem dX8_marks_28 : decode cX8_marks 28 = .ok (.aload_n 0, 1) := by decide +kernel
theorem dX8_marks_29 : decode cX8_marks 29 = .ok (.getfield 40, 3) := by decide +kernel
theorem dX8_marks_32 : decode cX8_marks 32 = .ok (.bipush 6, 2) := by decide +kernel
theorem dX8_marks_34 : decode cX8_marks 34 = .ok (.iload_n 1, 1) := by decide +kernel
theorem dX8_marks_35 : decode cX8_marks 35 = .ok (.imul, 1) := by decide +kernel
theorem dX8_marks_36 : decode cX8_marks 36 = .ok (.iaload, 1) := by decide +kernel
theorem dX8_marks_37 : decode cX8_marks 37 = .ok (.iconst 1, 1) := by decide +kernel
theorem dX8_marks_38 : decode cX8_marks 38 = .ok (.isub, 1) := by decide +kernel
theorem dX8_marks_39 : decode cX8_marks 39 = .ok (.iastore, 1) := by decide +kernel
theorem dX8_marks_40 : decode cX8_marks 40 = .ok (.iconst 0, 1) := by decide +kernel
theorem dX8_marks_41 : decode cX8_marks 41 = .ok (.istore_n 3, 1) := by decide +kernel
theorem dX8_marks_42 : decode cX8_marks 42 = .ok (.iload_n 3, 1) := by decide +kernel
theorem dX8_marks_43 : decode cX8_marks 43 = .ok (.bipush 6, 2) := by decide +kernel
theorem dX8_marks_45 : decode cX8_marks 45 = .ok (.if_icmp .ge 37, 3) := by decide +kernel
theorem dX8_marks_48 : decode cX8_marks 48 = .ok (.aload_n 0, 1) := by decide +kernel
theorem dX8_marks_49 : decode cX8_marks 49 = .ok (.getfield 37, 3) := by decide +kernel
theorem dX8_marks_52 : decode cX8_marks 52 = .ok (.sipush 240, 3) := by decide +kernel
theorem dX8_marks_55 : decode cX8_marks 55 = .ok (.iload_n 1, 1) := by decide +kernel
theorem dX8_marks_56 : decode cX8_marks 56 = .ok (.imul, 1) := by decide +kernel
theorem dX8_marks_57 : decode cX8_marks 57 = .ok (.bipush 6, 2) := by decide +kernel
theorem dX8_marks_59 : decode cX8_marks 59 = .ok (.iload_n 2, 1) := by decide +kernel
theorem dX8_marks_60 : decode cX8_marks 60 = .ok (.imul, 1) := by decide +kernel
theorem dX8_marks_61 : decode cX8_marks 61 = .ok (.iadd, 1) := by decide +kernel
theorem dX8_marks_62 : decode cX8_marks 62 = .ok (.iload_n 3, 1) := by decide +kernel
theorem dX8_marks_63 : decode cX8_marks 63 = .ok (.iadd, 1) := by decide +kernel
theorem dX8_marks_64 : decode cX8_marks 64 = .ok (.aload_n 0, 1) := by decide +kernel
theorem dX8_marks_65 : decode cX8_marks 65 = .ok (.getfield 28, 3) := by decide +kernel
theorem dX8_marks_68 : decode cX8_marks 68 = .ok (.bipush 6, 2) := by decide +kernel
theorem dX8_marks_70 : decode cX8_marks 70 = .ok (.iload_n 1, 1) := by decide +kernel
theorem dX8_marks_71 : decode cX8_marks 71 = .ok (.imul, 1) := by decide +kernel
theorem dX8_marks_72 : decode cX8_marks 72 = .ok (.iload_n 3, 1) := by decide +kernel
theorem dX8_marks_73 : decode cX8_marks 73 = .ok (.iadd, 1) := by decide +kernel
theorem dX8_marks_74 : decode cX8_marks 74 = .ok (.iaload, 1) := by decide +kernel
theorem dX8_marks_75 : decode cX8_marks 75 = .ok (.iastore, 1) := by decide +kernel
theorem dX8_marks_76 : decode cX8_marks 76 = .ok (.iinc 3 1, 3) := by decide +kernel
theorem dX8_marks_79 : decode cX8_marks 79 = .ok (.goto (-37), 3) := by decide +kernel
theorem dX8_marks_82 : decode cX8_marks 82 = .ok (.aload_n 0, 1) := by decide +kernel
theorem dX8_marks_83 : decode cX8_marks 83 = .ok (.getfield 40, 3) := by decide +kernel
theorem dX8_marks_86 : decode cX8_marks 86 = .ok (.bipush 6, 2) := by decide +kernel
theorem dX8_marks_88 : decode cX8_marks 88 = .ok (.iload_n 1, 1) := by decide +kernel
theorem dX8_marks_89 : decode cX8_marks 89 = .ok (.imul, 1) := by decide +kernel
theorem dX8_marks_90 : decode cX8_marks 90 = .ok (.iconst 3, 1) := by decide +kernel
theorem dX8_marks_91 : decode cX8_marks 91 = .ok (.iadd, 1) := by decide +kernel
theorem dX8_marks_92 : decode cX8_marks 92 = .ok (.dup2, 1) := by decide +kernel
theorem dX8_marks_93 : decode cX8_marks 93 = .ok (.iaload, 1) := by decide +kernel
theorem dX8_marks_94 : decode cX8_marks 94 = .ok (.iconst 1, 1) := by decide +kernel
theorem dX8_marks_95 : decode cX8_marks 95 = .ok (.iadd, 1) := by decide +kernel
theorem dX8_marks_96 : decode cX8_marks 96 = .ok (.iastore, 1) := by decide +kernel
theorem dX8_marks_97 : decode cX8_marks 97 = .ok (.return_, 1) := by decide +kernel
theorem dX8_roundOf_0 : decode cX8_roundOf 0 = .ok (.aload_n 0, 1) := by decide +kernel
theorem dX8_roundOf_1 : decode cX8_roundOf 1 = .ok (.getfield 49, 3) := by decide +kernel
theorem dX8_roundOf_4 : decode cX8_roundOf 4 = .ok (.iload_n 2, 1) := by decide +kernel
theorem dX8_roundOf_5 : decode cX8_roundOf 5 = .ok (.dup2, 1) := by decide +kernel
theorem dX8_roundOf_6 : decode cX8_roundOf 6 = .ok (.iaload, 1) := by decide +kernel
theorem dX8_roundOf_7 : decode cX8_roundOf 7 = .ok (.iconst 1, 1) := by decide +kernel
theorem dX8_roundOf_8 : decode cX8_roundOf 8 = .ok (.iadd, 1) := by decide +kernel
theorem dX8_roundOf_9 : decode cX8_roundOf 9 = .ok (.iastore, 1) := by decide +kernel
theorem dX8_roundOf_10 : decode cX8_roundOf 10 = .ok (.aload_n 0, 1) := by decide +kernel
theorem dX8_roundOf_11 : decode cX8_roundOf 11 = .ok (.getfield 40, 3) := by decide +kernel
theorem dX8_roundOf_14 : decode cX8_roundOf 14 = .ok (.bipush 6, 2) := by decide +kernel
theorem dX8_roundOf_16 : decode cX8_roundOf 16 = .ok (.iload_n 1, 1) := by decide +kernel
theorem dX8_roundOf_17 : decode cX8_roundOf 17 = .ok (.imul, 1) := by decide +kernel
theorem dX8_roundOf_18 : decode cX8_roundOf 18 = .ok (.iconst 4, 1) := by decide +kernel
theorem dX8_roundOf_19 : decode cX8_roundOf 19 = .ok (.iadd, 1) := by decide +kernel
theorem dX8_roundOf_20 : decode cX8_roundOf 20 = .ok (.dup2, 1) := by decide +kernel
theorem dX8_roundOf_21 : decode cX8_roundOf 21 = .ok (.iaload, 1) := by decide +kernel
theorem dX8_roundOf_22 : decode cX8_roundOf 22 = .ok (.iconst 1, 1) := by decide +kernel
theorem dX8_roundOf_23 : decode cX8_roundOf 23 = .ok (.iadd, 1) := by decide +kernel
theorem dX8_roundOf_24 : decode cX8_roundOf 24 = .ok (.iastore, 1) := by decide +kernel
theorem dX8_roundOf_25 : decode cX8_roundOf 25 = .ok (.aload_n 0, 1) := by decide +kernel
theorem dX8_roundOf_26 : decode cX8_roundOf 26 = .ok (.getfield 40, 3) := by decide +kernel
theorem dX8_roundOf_29 : decode cX8_roundOf 29 = .ok (.bipush 6, 2) := by decide +kernel
theorem dX8_roundOf_31 : decode cX8_roundOf 31 = .ok (.iload_n 1, 1) := by decide +kernel
theorem dX8_roundOf_32 : decode cX8_roundOf 32 = .ok (.imul, 1) := by decide +kernel
theorem dX8_roundOf_33 : decode cX8_roundOf 33 = .ok (.iconst 5, 1) := by decide +kernel
theorem dX8_roundOf_34 : decode cX8_roundOf 34 = .ok (.iadd, 1) := by decide +kernel
theorem dX8_roundOf_35 : decode cX8_roundOf 35 = .ok (.aload_n 0, 1) := by decide +kernel
theorem dX8_roundOf_36 : decode cX8_roundOf 36 = .ok (.getfield 49, 3) := by decide +kernel
theorem dX8_roundOf_39 : decode cX8_roundOf 39 = .ok (.iload_n 2, 1) := by decide +kernel
theorem dX8_roundOf_40 : decode cX8_roundOf 40 = .ok (.iaload, 1) := by decide +kernel
theorem dX8_roundOf_41 : decode cX8_roundOf 41 = .ok (.aload_n 0, 1) := by decide +kernel
theorem dX8_roundOf_42 : decode cX8_roundOf 42 = .ok (.getfield 40, 3) := by decide +kernel
theorem dX8_roundOf_45 : decode cX8_roundOf 45 = .ok (.bipush 6, 2) := by decide +kernel
theorem dX8_roundOf_47 : decode cX8_roundOf 47 = .ok (.iload_n 1, 1) := by decide +kernel
theorem dX8_roundOf_48 : decode cX8_roundOf 48 = .ok (.imul, 1) := by decide +kernel
theorem dX8_roundOf_49 : decode cX8_roundOf 49 = .ok (.iconst 5, 1) := by decide +kernel
theorem dX8_roundOf_50 : decode cX8_roundOf 50 = .ok (.iadd, 1) := by decide +kernel
theorem dX8_roundOf_51 : decode cX8_roundOf 51 = .ok (.iaload, 1) := by decide +kernel
theorem dX8_roundOf_52 : decode cX8_roundOf 52 = .ok (.if_icmp .le 12, 3) := by decide +kernel
theorem dX8_roundOf_55 : decode cX8_roundOf 55 = .ok (.aload_n 0, 1) := by decide +kernel
theorem dX8_roundOf_56 : decode cX8_roundOf 56 = .ok (.getfield 49, 3) := by decide +kernel
theorem dX8_roundOf_59 : decode cX8_roundOf 59 = .ok (.iload_n 2, 1) := by decide +kernel
theorem dX8_roundOf_60 : decode cX8_roundOf 60 = .ok (.iaload, 1) := by decide +kernel
theorem dX8_roundOf_61 : decode cX8_roundOf 61 = .ok (.goto 14, 3) := by decide +kernel
theorem dX8_roundOf_64 : decode cX8_roundOf 64 = .ok (.aload_n 0, 1) := by decide +kernel
theorem dX8_roundOf_65 : decode cX8_roundOf 65 = .ok (.getfield 40, 3) := by decide +kernel
theorem dX8_roundOf_68 : decode cX8_roundOf 68 = .ok (.bipush 6, 2) := by decide +kernel
theorem dX8_roundOf_70 : decode cX8_roundOf 70 = .ok (.iload_n 1, 1) := by decide +kernel
theorem dX8_roundOf_71 : decode cX8_roundOf 71 = .ok (.imul, 1) := by decide +kernel
theorem dX8_roundOf_72 : decode cX8_roundOf 72 = .ok (.iconst 5, 1) := by decide +kernel
theorem dX8_roundOf_73 : decode cX8_roundOf 73 = .ok (.iadd, 1) := by decide +kernel
theorem dX8_roundOf_74 : decode cX8_roundOf 74 = .ok (.iaload, 1) := by decide +kernel
theorem dX8_roundOf_75 : decode cX8_roundOf 75 = .ok (.iastore, 1) := by decide +kernel
theorem dX8_roundOf_76 : decode cX8_roundOf 76 = .ok (.return_, 1) := by decide +kernel
theorem dX8_runs_0 : decode cX8_runs 0 = .ok (.iconst 0, 1) := by decide +kernel
theorem dX8_runs_1 : decode cX8_runs 1 = .ok (.istore 4, 2) := by decide +kernel
theorem dX8_runs_3 : decode cX8_runs 3 = .ok (.iload 4, 2) := by decide +kernel
theorem dX8_runs_5 : decode cX8_runs 5 = .ok (.bipush 6, 2) := by decide +kernel
theorem dX8_runs_7 : decode cX8_runs 7 = .ok (.if_icmp .ge 54, 3) := by decide +kernel
theorem dX8_runs_10 : decode cX8_runs 10 = .ok (.aload_n 0, 1) := by decide +kernel
theorem dX8_runs_11 : decode cX8_runs 11 = .ok (.getfield 40, 3) := by decide +kernel
theorem dX8_runs_14 : decode cX8_runs 14 = .ok (.bipush 6, 2) := by decide +kernel
theorem dX8_runs_16 : decode cX8_runs 16 = .ok (.iload_n 1, 1) := by decide +kernel
theorem dX8_runs_17 : decode cX8_runs 17 = .ok (.imul, 1) := by decide +kernel
theorem dX8_runs_18 : decode cX8_runs 18 = .ok (.iload 4, 2) := by decide +kernel
theorem dX8_runs_20 : decode cX8_runs 20 = .ok (.iadd, 1) := by decide +kernel
theorem dX8_runs_21 : decode cX8_runs 21 = .ok (.iconst 0, 1) := by decide +kernel
theorem dX8_runs_22 : decode cX8_runs 22 = .ok (.iastore, 1) := by decide +kernel
theorem dX8_runs_23 : decode cX8_runs 23 = .ok (.aload_n 0, 1) := by decide +kernel
theorem dX8_runs_24 : decode cX8_runs 24 = .ok (.getfield 28, 3) := by decide +kernel
theorem dX8_runs_27 : decode cX8_runs 27 = .ok (.bipush 6, 2) := by decide +kernel
theorem dX8_runs_29 : decode cX8_runs 29 = .ok (.iload_n 1, 1) := by decide +kernel
theorem dX8_runs_30 : decode cX8_runs 30 = .ok (.imul, 1) := by decide +kernel
theorem dX8_runs_31 : decode cX8_runs 31 = .ok (.iload 4, 2) := by decide +kernel
theorem dX8_runs_33 : decode cX8_runs 33 = .ok (.iadd, 1) := by decide +kernel
theorem dX8_runs_34 : decode cX8_runs 34 = .ok (.iload 4, 2) := by decide +kernel
theorem dX8_runs_36 : decode cX8_runs 36 = .ok (.ifCond .ne 7, 3) := by decide +kernel
theorem dX8_runs_39 : decode cX8_runs 39 = .ok (.iload_n 2, 1) := by decide +kernel
theorem dX8_runs_40 : decode cX8_runs 40 = .ok (.goto 14, 3) := by decide +kernel
theorem dX8_runs_43 : decode cX8_runs 43 = .ok (.iload 4, 2) := by decide +kernel
theorem dX8_runs_45 : decode cX8_runs 45 = .ok (.iconst 1, 1) := by decide +kernel
theorem dX8_runs_46 : decode cX8_runs 46 = .ok (.if_icmp .ne 7, 3) := by decide +kernel
theorem dX8_runs_49 : decode cX8_runs 49 = .ok (.iload_n 3, 1) := by decide +kernel
theorem dX8_runs_50 : decode cX8_runs 50 = .ok (.goto 4, 3) := by decide +kernel
theorem dX8_runs_53 : decode cX8_runs 53 = .ok (.iconst 0, 1) := by decide +kernel
theorem dX8_runs_54 : decode cX8_runs 54 = .ok (.iastore, 1) := by decide +kernel
theorem dX8_runs_55 : decode cX8_runs 55 = .ok (.iinc 4 1, 3) := by decide +kernel
theorem dX8_runs_58 : decode cX8_runs 58 = .ok (.goto (-55), 3) := by decide +kernel
theorem dX8_runs_61 : decode cX8_runs 61 = .ok (.iconst 0, 1) := by decide +kernel
theorem dX8_runs_62 : decode cX8_runs 62 = .ok (.istore 4, 2) := by decide +kernel
theorem dX8_runs_64 : decode cX8_runs 64 = .ok (.iconst 0, 1) := by decide +kernel
theorem dX8_runs_65 : decode cX8_runs 65 = .ok (.istore 5, 2) := by decide +kernel
theorem dX8_runs_67 : decode cX8_runs 67 = .ok (.iconst 0, 1) := by decide +kernel
theorem dX8_runs_68 : decode cX8_runs 68 = .ok (.istore 6, 2) := by decide +kernel
theorem dX8_runs_70 : decode cX8_runs 70 = .ok (.iconst 1, 1) := by decide +kernel
theorem dX8_runs_71 : decode cX8_runs 71 = .ok (.istore 7, 2) := by decide +kernel
theorem dX8_runs_73 : decode cX8_runs 73 = .ok (.iload 7, 2) := by decide +kernel
theorem dX8_runs_75 : decode cX8_runs 75 = .ok (.ifCond .eq 423, 3) := by decide +kernel
theorem dX8_runs_78 : decode cX8_runs 78 = .ok (.iload 4, 2) := by decide +kernel
theorem dX8_runs_80 : decode cX8_runs 80 = .ok (.ifCond .le 89, 3) := by decide +kernel
theorem dX8_runs_83 : decode cX8_runs 83 = .ok (.iload 6, 2) := by decide +kernel
theorem dX8_runs_85 : decode cX8_runs 85 = .ok (.ifCond .ne 84, 3) := by decide +kernel
theorem dX8_runs_88 : decode cX8_runs 88 = .ok (.iload 5, 2) := by decide +kernel
theorem dX8_runs_90 : decode cX8_runs 90 = .ok (.aload_n 0, 1) := by decide +kernel
theorem dX8_runs_91 : decode cX8_runs 91 = .ok (.getfield 46, 3) := by decide +kernel
theorem dX8_runs_94 : decode cX8_runs 94 = .ok (.iload 4, 2) := by decide +kernel
theorem dX8_runs_96 : decode cX8_runs 96 = .ok (.iconst 1, 1) := by decide +kernel
theorem dX8_runs_97 : decode cX8_runs 97 = .ok (.isub, 1) := by decide +kernel
theorem dX8_runs_98 : decode cX8_runs 98 = .ok (.iaload, 1) := by decide +kernel
theorem dX8_runs_99 : decode cX8_runs 99 = .ok (.if_icmp .ne 70, 3) := by decide +kernel
theorem dX8_runs_102 : decode cX8_runs 102 = .ok (.aload_n 0, 1) := by decide +kernel
theorem dX8_runs_103 : decode cX8_runs 103 = .ok (.getfield 43, 3) := by decide +kernel
theorem dX8_runs_106 : decode cX8_runs 106 = .ok (.iload 4, 2) := by decide +kernel
theorem dX8_runs_108 : decode cX8_runs 108 = .ok (.iconst 1, 1) := by decide +kernel
theorem dX8_runs_109 : decode cX8_runs 109 = .ok (.isub, 1) := by decide +kernel
theorem dX8_runs_110 : decode cX8_runs 110 = .ok (.iaload, 1) := by decide +kernel
theorem dX8_runs_111 : decode cX8_runs 111 = .ok (.istore 8, 2) := by decide +kernel
theorem dX8_runs_113 : decode cX8_runs 113 = .ok (.aload_n 0, 1) := by decide +kernel
theorem dX8_runs_114 : decode cX8_runs 114 = .ok (.iload 8, 2) := by decide +kernel
theorem dX8_runs_116 : decode cX8_runs 116 = .ok (.iconst 0, 1) := by decide +kernel
theorem dX8_runs_117 : decode cX8_runs 117 = .ok (.invokevirtual 124, 3) := by decide +kernel
theorem dX8_runs_120 : decode cX8_runs 120 = .ok (.iconst 3, 1) := by decide +kernel
theorem dX8_runs_121 : decode cX8_runs 121 = .ok (.if_icmp .ne 7, 3) := by decide +kernel
theorem dX8_runs_124 : decode cX8_runs 124 = .ok (.iconst 1, 1) := by decide +kernel
theorem dX8_runs_125 : decode cX8_runs 125 = .ok (.goto 4, 3) := by decide +kernel
theorem dX8_runs_128 : decode cX8_runs 128 = .ok (.iconst 0, 1) := by decide +kernel
theorem dX8_runs_129 : decode cX8_runs 129 = .ok (.istore 6, 2) := by decide +kernel
theorem dX8_runs_131 : decode cX8_runs 131 = .ok (.iload 6, 2) := by decide +kernel
theorem dX8_runs_133 : decode cX8_runs 133 = .ok (.ifCond .eq 8, 3) := by decide +kernel
theorem dX8_runs_136 : decode cX8_runs 136 = .ok (.iload 8, 2) := by decide +kernel
theorem dX8_runs_138 : decode cX8_runs 138 = .ok (.goto 11, 3) := by decide +kernel
theorem dX8_runs_141 : decode cX8_runs 141 = .ok (.aload_n 0, 1) := by decide +kernel
theorem dX8_runs_142 : decode cX8_runs 142 = .ok (.iload 8, 2) := by decide +kernel
theorem dX8_runs_144 : decode cX8_runs 144 = .ok (.bipush 6, 2) := by decide +kernel
theorem dX8_runs_146 : decode cX8_runs 146 = .ok (.invokevirtual 124, 3) := by decide +kernel
theorem dX8_runs_149 : decode cX8_runs 149 = .ok (.istore 5, 2) := by decide +kernel
theorem dX8_runs_151 : decode cX8_runs 151 = .ok (.iload 4, 2) := by decide +kernel
theorem dX8_runs_153 : decode cX8_runs 153 = .ok (.iload 6, 2) := by decide +kernel
theorem dX8_runs_155 : decode cX8_runs 155 = .ok (.ifCond .eq 7, 3) := by decide +kernel
theorem dX8_runs_158 : decode cX8_runs 158 = .ok (.iconst 0, 1) := by decide +kernel
theorem dX8_runs_159 : decode cX8_runs 159 = .ok (.goto 4, 3) := by decide +kernel
theorem dX8_runs_162 : decode cX8_runs 162 = .ok (.iconst 1, 1) := by decide +kernel
theorem dX8_runs_163 : decode cX8_runs 163 = .ok (.isub, 1) := by decide +kernel
theorem dX8_runs_164 : decode cX8_runs 164 = .ok (.istore 4, 2) := by decide +kernel
theorem dX8_runs_166 : decode cX8_runs 166 = .ok (.goto (-93), 3) := by decide +kernel
theorem dX8_runs_169 : decode cX8_runs 169 = .ok (.iload 5, 2) := by decide +kernel
theorem dX8_runs_171 : decode cX8_runs 171 = .ok (.aload_n 0, 1) := by decide +kernel
theorem dX8_runs_172 : decode cX8_runs 172 = .ok (.getfield 19, 3) := by decide +kernel
theorem dX8_runs_175 : decode cX8_runs 175 = .ok (.iconst 0, 1) := by decide +kernel
theorem dX8_runs_176 : decode cX8_runs 176 = .ok (.iaload, 1) := by decide +kernel
theorem dX8_runs_177 : decode cX8_runs 177 = .ok (.if_icmp .ne 9, 3) := by decide +kernel
theorem dX8_runs_180 : decode cX8_runs 180 = .ok (.iconst 0, 1) := by decide +kernel
theorem dX8_runs_181 : decode cX8_runs 181 = .ok (.istore 7, 2) := by decide +kernel
theorem dX8_runs_183 : decode cX8_runs 183 = .ok (.goto (-110), 3) := by decide +kernel
theorem dX8_runs_186 : decode cX8_runs 186 = .ok (.aload_n 0, 1) := by decide +kernel
theorem dX8_runs_187 : decode cX8_runs 187 = .ok (.getfield 40, 3) := by decide +kernel
theorem dX8_runs_190 : decode cX8_runs 190 = .ok (.bipush 6, 2) := by decide +kernel
theorem dX8_runs_192 : decode cX8_runs 192 = .ok (.iload_n 1, 1) := by decide +kernel
theorem dX8_runs_193 : decode cX8_runs 193 = .ok (.imul, 1) := by decide +kernel
theorem dX8_runs_194 : decode cX8_runs 194 = .ok (.iaload, 1) := by decide +kernel
theorem dX8_runs_195 : decode cX8_runs 195 = .ok (.sipush 400, 3) := by decide +kernel
theorem dX8_runs_198 : decode cX8_runs 198 = .ok (.if_icmp .ne 21, 3) := by decide +kernel
theorem dX8_runs_201 : decode cX8_runs 201 = .ok (.aload_n 0, 1) := by decide +kernel
theorem dX8_runs_202 : decode cX8_runs 202 = .ok (.getfield 40, 3) := by decide +kernel
theorem dX8_runs_205 : decode cX8_runs 205 = .ok (.bipush 6, 2) := by decide +kernel
theorem dX8_runs_207 : decode cX8_runs 207 = .ok (.iload_n 1, 1) := by decide +kernel
theorem dX8_runs_208 : decode cX8_runs 208 = .ok (.imul, 1) := by decide +kernel
theorem dX8_runs_209 : decode cX8_runs 209 = .ok (.iconst 1, 1) := by decide +kernel
theorem dX8_runs_210 : decode cX8_runs 210 = .ok (.iadd, 1) := by decide +kernel
theorem dX8_runs_211 : decode cX8_runs 211 = .ok (.iconst 1, 1) := by decide +kernel
theorem dX8_runs_212 : decode cX8_runs 212 = .ok (.iastore, 1) := by decide +kernel
theorem dX8_runs_213 : decode cX8_runs 213 = .ok (.iconst 0, 1) := by decide +kernel
theorem dX8_runs_214 : decode cX8_runs 214 = .ok (.istore 7, 2) := by decide +kernel
theorem dX8_runs_216 : decode cX8_runs 216 = .ok (.goto (-143), 3) := by decide +kernel
theorem dX8_runs_219 : decode cX8_runs 219 = .ok (.aload_n 0, 1) := by decide +kernel
theorem dX8_runs_220 : decode cX8_runs 220 = .ok (.getfield 40, 3) := by decide +kernel
theorem dX8_runs_223 : decode cX8_runs 223 = .ok (.bipush 6, 2) := by decide +kernel
theorem dX8_runs_225 : decode cX8_runs 225 = .ok (.iload_n 1, 1) := by decide +kernel
theorem dX8_runs_226 : decode cX8_runs 226 = .ok (.imul, 1) := by decide +kernel
theorem dX8_runs_227 : decode cX8_runs 227 = .ok (.dup2, 1) := by decide +kernel
theorem dX8_runs_228 : decode cX8_runs 228 = .ok (.iaload, 1) := by decide +kernel
theorem dX8_runs_229 : decode cX8_runs 229 = .ok (.iconst 1, 1) := by decide +kernel
theorem dX8_runs_230 : decode cX8_runs 230 = .ok (.iadd, 1) := by decide +kernel
theorem dX8_runs_231 : decode cX8_runs 231 = .ok (.iastore, 1) := by decide +kernel
theorem dX8_runs_232 : decode cX8_runs 232 = .ok (.aload_n 0, 1) := by decide +kernel
theorem dX8_runs_233 : decode cX8_runs 233 = .ok (.iload 5, 2) := by decide +kernel
theorem dX8_runs_235 : decode cX8_runs 235 = .ok (.iconst 0, 1) := by decide +kernel
theorem dX8_runs_236 : decode cX8_runs 236 = .ok (.invokevirtual 124, 3) := by decide +kernel
theorem dX8_runs_239 : decode cX8_runs 239 = .ok (.istore 8, 2) := by decide +kernel
theorem dX8_runs_241 : decode cX8_runs 241 = .ok (.iload 8, 2) := by decide +kernel
theorem dX8_runs_243 : decode cX8_runs 243 = .ok (.iconst 3, 1) := by decide +kernel
theorem dX8_runs_244 : decode cX8_runs 244 = .ok (.if_icmp .lt 27, 3) := by decide +kernel
theorem dX8_runs_247 : decode cX8_runs 247 = .ok (.aload_n 0, 1) := by decide +kernel
theorem dX8_runs_248 : decode cX8_runs 248 = .ok (.getfield 28, 3) := by decide +kernel
theorem dX8_runs_251 : decode cX8_runs 251 = .ok (.bipush 6, 2) := by decide +kernel
theorem dX8_runs_253 : decode cX8_runs 253 = .ok (.iload_n 1, 1) := by decide +kernel
theorem dX8_runs_254 : decode cX8_runs 254 = .ok (.imul, 1) := by decide +kernel
theorem dX8_runs_255 : decode cX8_runs 255 = .ok (.aload_n 0, 1) := by decide +kernel
theorem dX8_runs_256 : decode cX8_runs 256 = .ok (.iload 5, 2) := by decide +kernel
theorem dX8_runs_258 : decode cX8_runs 258 = .ok (.iconst 1, 1) := by decide +kernel
theorem dX8_runs_259 : decode cX8_runs 259 = .ok (.invokevirtual 124, 3) := by decide +kernel
theorem dX8_runs_262 : decode cX8_runs 262 = .ok (.iadd, 1) := by decide +kernel
theorem dX8_runs_263 : decode cX8_runs 263 = .ok (.iaload, 1) := by decide +kernel
theorem dX8_runs_264 : decode cX8_runs 264 = .ok (.ifCond .le 7, 3) := by decide +kernel
theorem dX8_runs_267 : decode cX8_runs 267 = .ok (.iconst 1, 1) := by decide +kernel
theorem dX8_runs_268 : decode cX8_runs 268 = .ok (.goto 4, 3) := by decide +kernel
theorem dX8_runs_271 : decode cX8_runs 271 = .ok (.iconst 0, 1) := by decide +kernel
theorem dX8_runs_272 : decode cX8_runs 272 = .ok (.istore 9, 2) := by decide +kernel
theorem dX8_runs_274 : decode cX8_runs 274 = .ok (.iload 8, 2) := by decide +kernel
theorem dX8_runs_276 : decode cX8_runs 276 = .ok (.iconst 3, 1) := by decide +kernel
theorem dX8_runs_277 : decode cX8_runs 277 = .ok (.if_icmp .ne 131, 3) := by decide +kernel
theorem dX8_runs_280 : decode cX8_runs 280 = .ok (.iload 4, 2) := by decide +kernel
theorem dX8_runs_282 : decode cX8_runs 282 = .ok (.iload 9, 2) := by decide +kernel
theorem dX8_runs_284 : decode cX8_runs 284 = .ok (.ifCond .eq 12, 3) := by decide +kernel
theorem dX8_runs_287 : decode cX8_runs 287 = .ok (.iload 6, 2) := by decide +kernel
theorem dX8_runs_289 : decode cX8_runs 289 = .ok (.ifCond .ne 7, 3) := by decide +kernel
theorem dX8_runs_292 : decode cX8_runs 292 = .ok (.iconst 1, 1) := by decide +kernel
theorem dX8_runs_293 : decode cX8_runs 293 = .ok (.goto 18, 3) := by decide +kernel
theorem dX8_runs_296 : decode cX8_runs 296 = .ok (.iload 9, 2) := by decide +kernel
theorem dX8_runs_298 : decode cX8_runs 298 = .ok (.ifCond .ne 12, 3) := by decide +kernel
theorem dX8_runs_301 : decode cX8_runs 301 = .ok (.iload 6, 2) := by decide +kernel
theorem dX8_runs_303 : decode cX8_runs 303 = .ok (.ifCond .eq 7, 3) := by decide +kernel
theorem dX8_runs_306 : decode cX8_runs 306 = .ok (.iconst (-1), 1) := by decide +kernel
theorem dX8_runs_307 : decode cX8_runs 307 = .ok (.goto 4, 3) := by decide +kernel
theorem dX8_runs_310 : decode cX8_runs 310 = .ok (.iconst 0, 1) := by decide +kernel
theorem dX8_runs_311 : decode cX8_runs 311 = .ok (.iadd, 1) := by decide +kernel
theorem dX8_runs_312 : decode cX8_runs 312 = .ok (.istore 4, 2) := by decide +kernel
theorem dX8_runs_314 : decode cX8_runs 314 = .ok (.iload 9, 2) := by decide +kernel
theorem dX8_runs_316 : decode cX8_runs 316 = .ok (.ifCond .eq 67, 3) := by decide +kernel
theorem dX8_runs_319 : decode cX8_runs 319 = .ok (.aload_n 0, 1) := by decide +kernel
theorem dX8_runs_320 : decode cX8_runs 320 = .ok (.getfield 49, 3) := by decide +kernel
theorem dX8_runs_323 : decode cX8_runs 323 = .ok (.iload 4, 2) := by decide +kernel
theorem dX8_runs_325 : decode cX8_runs 325 = .ok (.iconst 1, 1) := by decide +kernel
theorem dX8_runs_326 : decode cX8_runs 326 = .ok (.isub, 1) := by decide +kernel
theorem dX8_runs_327 : decode cX8_runs 327 = .ok (.iload 6, 2) := by decide +kernel
theorem dX8_runs_329 : decode cX8_runs 329 = .ok (.ifCond .eq 15, 3) := by decide +kernel
theorem dX8_runs_332 : decode cX8_runs 332 = .ok (.aload_n 0, 1) := by decide +kernel
theorem dX8_runs_333 : decode cX8_runs 333 = .ok (.getfield 49, 3) := by decide +kernel
theorem dX8_runs_336 : decode cX8_runs 336 = .ok (.iload 4, 2) := by decide +kernel
theorem dX8_runs_338 : decode cX8_runs 338 = .ok (.iconst 1, 1) := by decide +kernel
theorem dX8_runs_339 : decode cX8_runs 339 = .ok (.isub, 1) := by decide +kernel
theorem dX8_runs_340 : decode cX8_runs 340 = .ok (.iaload, 1) := by decide +kernel
theorem dX8_runs_341 : decode cX8_runs 341 = .ok (.goto 4, 3) := by decide +kernel
theorem dX8_runs_344 : decode cX8_runs 344 = .ok (.iconst 0, 1) := by decide +kernel
theorem dX8_runs_345 : decode cX8_runs 345 = .ok (.iastore, 1) := by decide +kernel
theorem dX8_runs_346 : decode cX8_runs 346 = .ok (.aload_n 0, 1) := by decide +kernel
theorem dX8_runs_347 : decode cX8_runs 347 = .ok (.getfield 43, 3) := by decide +kernel
theorem dX8_runs_350 : decode cX8_runs 350 = .ok (.iload 4, 2) := by decide +kernel
theorem dX8_runs_352 : decode cX8_runs 352 = .ok (.iconst 1, 1) := by decide +kernel
theorem dX8_runs_353 : decode cX8_runs 353 = .ok (.isub, 1) := by decide +kernel
theorem dX8_runs_354 : decode cX8_runs 354 = .ok (.iload 5, 2) := by decide +kernel
theorem dX8_runs_356 : decode cX8_runs 356 = .ok (.iastore, 1) := by decide +kernel
theorem dX8_runs_357 : decode cX8_runs 357 = .ok (.aload_n 0, 1) := by decide +kernel
theorem dX8_runs_358 : decode cX8_runs 358 = .ok (.getfield 46, 3) := by decide +kernel
theorem dX8_runs_361 : decode cX8_runs 361 = .ok (.iload 4, 2) := by decide +kernel
theorem dX8_runs_363 : decode cX8_runs 363 = .ok (.iconst 1, 1) := by decide +kernel
theorem dX8_runs_364 : decode cX8_runs 364 = .ok (.isub, 1) := by decide +kernel
theorem dX8_runs_365 : decode cX8_runs 365 = .ok (.aload_n 0, 1) := by decide +kernel
theorem dX8_runs_366 : decode cX8_runs 366 = .ok (.iload 5, 2) := by decide +kernel
theorem dX8_runs_368 : decode cX8_runs 368 = .ok (.bipush 6, 2) := by decide +kernel
theorem dX8_runs_370 : decode cX8_runs 370 = .ok (.invokevirtual 124, 3) := by decide +kernel
theorem dX8_runs_373 : decode cX8_runs 373 = .ok (.iastore, 1) := by decide +kernel
theorem dX8_runs_374 : decode cX8_runs 374 = .ok (.aload_n 0, 1) := by decide +kernel
theorem dX8_runs_375 : decode cX8_runs 375 = .ok (.iload_n 1, 1) := by decide +kernel
theorem dX8_runs_376 : decode cX8_runs 376 = .ok (.iload 4, 2) := by decide +kernel
theorem dX8_runs_378 : decode cX8_runs 378 = .ok (.iconst 1, 1) := by decide +kernel
theorem dX8_runs_379 : decode cX8_runs 379 = .ok (.isub, 1) := by decide +kernel
theorem dX8_runs_380 : decode cX8_runs 380 = .ok (.invokevirtual 152, 3) := by decide +kernel
theorem dX8_runs_383 : decode cX8_runs 383 = .ok (.iload 9, 2) := by decide +kernel
theorem dX8_runs_385 : decode cX8_runs 385 = .ok (.ifCond .eq 10, 3) := by decide +kernel
theorem dX8_runs_388 : decode cX8_runs 388 = .ok (.iload 5, 2) := by decide +kernel
theorem dX8_runs_390 : decode cX8_runs 390 = .ok (.iconst 1, 1) := by decide +kernel
theorem dX8_runs_391 : decode cX8_runs 391 = .ok (.iadd, 1) := by decide +kernel
theorem dX8_runs_392 : decode cX8_runs 392 = .ok (.goto 11, 3) := by decide +kernel
theorem dX8_runs_395 : decode cX8_runs 395 = .ok (.aload_n 0, 1) := by decide +kernel
theorem dX8_runs_396 : decode cX8_runs 396 = .ok (.iload 5, 2) := by decide +kernel
theorem dX8_runs_398 : decode cX8_runs 398 = .ok (.bipush 6, 2) := by decide +kernel
theorem dX8_runs_400 : decode cX8_runs 400 = .ok (.invokevirtual 124, 3) := by decide +kernel
theorem dX8_runs_403 : decode cX8_runs 403 = .ok (.istore 5, 2) := by decide +kernel
theorem dX8_runs_405 : decode cX8_runs 405 = .ok (.goto 87, 3) := by decide +kernel
theorem dX8_runs_408 : decode cX8_runs 408 = .ok (.iload 8, 2) := by decide +kernel
theorem dX8_runs_410 : decode cX8_runs 410 = .ok (.iconst 4, 1) := by decide +kernel
theorem dX8_runs_411 : decode cX8_runs 411 = .ok (.if_icmp .ne 69, 3) := by decide +kernel
theorem dX8_runs_414 : decode cX8_runs 414 = .ok (.aload_n 0, 1) := by decide +kernel
theorem dX8_runs_415 : decode cX8_runs 415 = .ok (.getfield 43, 3) := by decide +kernel
theorem dX8_runs_418 : decode cX8_runs 418 = .ok (.iload 4, 2) := by decide +kernel
theorem dX8_runs_420 : decode cX8_runs 420 = .ok (.iload 5, 2) := by decide +kernel
theorem dX8_runs_422 : decode cX8_runs 422 = .ok (.iastore, 1) := by decide +kernel
theorem dX8_runs_423 : decode cX8_runs 423 = .ok (.aload_n 0, 1) := by decide +kernel
theorem dX8_runs_424 : decode cX8_runs 424 = .ok (.getfield 46, 3) := by decide +kernel
theorem dX8_runs_427 : decode cX8_runs 427 = .ok (.iload 4, 2) := by decide +kernel
theorem dX8_runs_429 : decode cX8_runs 429 = .ok (.iload 9, 2) := by decide +kernel
theorem dX8_runs_431 : decode cX8_runs 431 = .ok (.ifCond .eq 13, 3) := by decide +kernel
theorem dX8_runs_434 : decode cX8_runs 434 = .ok (.aload_n 0, 1) := by decide +kernel
theorem dX8_runs_435 : decode cX8_runs 435 = .ok (.iload 5, 2) := by decide +kernel
theorem dX8_runs_437 : decode cX8_runs 437 = .ok (.iconst 5, 1) := by decide +kernel
theorem dX8_runs_438 : decode cX8_runs 438 = .ok (.invokevirtual 124, 3) := by decide +kernel
theorem dX8_runs_441 : decode cX8_runs 441 = .ok (.goto 11, 3) := by decide +kernel
theorem dX8_runs_444 : decode cX8_runs 444 = .ok (.aload_n 0, 1) := by decide +kernel
theorem dX8_runs_445 : decode cX8_runs 445 = .ok (.iload 5, 2) := by decide +kernel
theorem dX8_runs_447 : decode cX8_runs 447 = .ok (.bipush 6, 2) := by decide +kernel
theorem dX8_runs_449 : decode cX8_runs 449 = .ok (.invokevirtual 124, 3) := by decide +kernel
theorem dX8_runs_452 : decode cX8_runs 452 = .ok (.iastore, 1) := by decide +kernel
theorem dX8_runs_453 : decode cX8_runs 453 = .ok (.iinc 4 1, 3) := by decide +kernel
theorem dX8_runs_456 : decode cX8_runs 456 = .ok (.iload 9, 2) := by decide +kernel
theorem dX8_runs_458 : decode cX8_runs 458 = .ok (.ifCond .eq 10, 3) := by decide +kernel
theorem dX8_runs_461 : decode cX8_runs 461 = .ok (.iload 5, 2) := by decide +kernel
theorem dX8_runs_463 : decode cX8_runs 463 = .ok (.iconst 1, 1) := by decide +kernel
theorem dX8_runs_464 : decode cX8_runs 464 = .ok (.iadd, 1) := by decide +kernel
theorem dX8_runs_465 : decode cX8_runs 465 = .ok (.goto 10, 3) := by decide +kernel
theorem dX8_runs_468 : decode cX8_runs 468 = .ok (.aload_n 0, 1) := by decide +kernel
theorem dX8_runs_469 : decode cX8_runs 469 = .ok (.iload 5, 2) := by decide +kernel
theorem dX8_runs_471 : decode cX8_runs 471 = .ok (.iconst 5, 1) := by decide +kernel
theorem dX8_runs_472 : decode cX8_runs 472 = .ok (.invokevirtual 124, 3) := by decide +kernel
theorem dX8_runs_475 : decode cX8_runs 475 = .ok (.istore 5, 2) := by decide +kernel
theorem dX8_runs_477 : decode cX8_runs 477 = .ok (.goto 15, 3) := by decide +kernel
theorem dX8_runs_480 : decode cX8_runs 480 = .ok (.aload_n 0, 1) := by decide +kernel
theorem dX8_runs_481 : decode cX8_runs 481 = .ok (.iload_n 1, 1) := by decide +kernel
theorem dX8_runs_482 : decode cX8_runs 482 = .ok (.iload 5, 2) := by decide +kernel
theorem dX8_runs_484 : decode cX8_runs 484 = .ok (.iload 8, 2) := by decide +kernel
theorem dX8_runs_486 : decode cX8_runs 486 = .ok (.invokevirtual 156, 3) := by decide +kernel
theorem dX8_runs_489 : decode cX8_runs 489 = .ok (.iinc 5 1, 3) := by decide +kernel
theorem dX8_runs_492 : decode cX8_runs 492 = .ok (.iconst 0, 1) := by decide +kernel
theorem dX8_runs_493 : decode cX8_runs 493 = .ok (.istore 6, 2) := by decide +kernel
theorem dX8_runs_495 : decode cX8_runs 495 = .ok (.goto (-422), 3) := by decide +kernel
theorem dX8_runs_498 : decode cX8_runs 498 = .ok (.return_, 1) := by decide +kernel
theorem dX8_does_0 : decode cX8_does 0 = .ok (.iload_n 3, 1) := by decide +kernel
theorem dX8_does_1 : decode cX8_does 1 = .ok (.ifCond .ne 12, 3) := by decide +kernel
theorem dX8_does_4 : decode cX8_does 4 = .ok (.aload_n 0, 1) := by decide +kernel
theorem dX8_does_5 : decode cX8_does 5 = .ok (.iload_n 1, 1) := by decide +kernel
theorem dX8_does_6 : decode cX8_does 6 = .ok (.iload_n 2, 1) := by decide +kernel
theorem dX8_does_7 : decode cX8_does 7 = .ok (.invokevirtual 159, 3) := by decide +kernel
theorem dX8_does_10 : decode cX8_does 10 = .ok (.goto 22, 3) := by decide +kernel
theorem dX8_does_13 : decode cX8_does 13 = .ok (.iload_n 3, 1) := by decide +kernel
theorem dX8_does_14 : decode cX8_does 14 = .ok (.iconst 1, 1) := by decide +kernel
theorem dX8_does_15 : decode cX8_does 15 = .ok (.if_icmp .ne 12, 3) := by decide +kernel
theorem dX8_does_18 : decode cX8_does 18 = .ok (.aload_n 0, 1) := by decide +kernel
theorem dX8_does_19 : decode cX8_does 19 = .ok (.iload_n 1, 1) := by decide +kernel
theorem dX8_does_20 : decode cX8_does 20 = .ok (.iload_n 2, 1) := by decide +kernel
theorem dX8_does_21 : decode cX8_does 21 = .ok (.invokevirtual 162, 3) := by decide +kernel
theorem dX8_does_24 : decode cX8_does 24 = .ok (.goto 8, 3) := by decide +kernel
theorem dX8_does_27 : decode cX8_does 27 = .ok (.aload_n 0, 1) := by decide +kernel
theorem dX8_does_28 : decode cX8_does 28 = .ok (.iload_n 1, 1) := by decide +kernel
theorem dX8_does_29 : decode cX8_does 29 = .ok (.invokevirtual 165, 3) := by decide +kernel
theorem dX8_does_32 : decode cX8_does 32 = .ok (.return_, 1) := by decide +kernel
theorem dX8_runsOne_0 : decode cX8_runsOne 0 = .ok (.aload_n 0, 1) := by decide +kernel
theorem dX8_runsOne_1 : decode cX8_runsOne 1 = .ok (.iload_n 1, 1) := by decide +kernel
theorem dX8_runsOne_2 : decode cX8_runsOne 2 = .ok (.invokevirtual 121, 3) := by decide +kernel
theorem dX8_runsOne_5 : decode cX8_runsOne 5 = .ok (.aload_n 0, 1) := by decide +kernel
theorem dX8_runsOne_6 : decode cX8_runsOne 6 = .ok (.iload_n 1, 1) := by decide +kernel
theorem dX8_runsOne_7 : decode cX8_runsOne 7 = .ok (.iload_n 2, 1) := by decide +kernel
theorem dX8_runsOne_8 : decode cX8_runsOne 8 = .ok (.iload_n 3, 1) := by decide +kernel
theorem dX8_runsOne_9 : decode cX8_runsOne 9 = .ok (.invokevirtual 168, 3) := by decide +kernel
theorem dX8_runsOne_12 : decode cX8_runsOne 12 = .ok (.return_, 1) := by decide +kernel
theorem dX8_least_0 : decode cX8_least 0 = .ok (.iload_n 0, 1) := by decide +kernel
theorem dX8_least_1 : decode cX8_least 1 = .ok (.iload_n 1, 1) := by decide +kernel
theorem dX8_least_2 : decode cX8_least 2 = .ok (.if_icmp .ge 7, 3) := by decide +kernel
theorem dX8_least_5 : decode cX8_least 5 = .ok (.iload_n 0, 1) := by decide +kernel
theorem dX8_least_6 : decode cX8_least 6 = .ok (.goto 4, 3) := by decide +kernel
theorem dX8_least_9 : decode cX8_least 9 = .ok (.iload_n 1, 1) := by decide +kernel
theorem dX8_least_10 : decode cX8_least 10 = .ok (.ireturn, 1) := by decide +kernel
theorem dX8_run_0 : decode cX8_run 0 = .ok (.iload_n 1, 1) := by decide +kernel
theorem dX8_run_1 : decode cX8_run 1 = .ok (.invokestatic 107, 3) := by decide +kernel
theorem dX8_run_4 : decode cX8_run 4 = .ok (.ifCond .eq 21, 3) := by decide +kernel
theorem dX8_run_7 : decode cX8_run 7 = .ok (.iload_n 2, 1) := by decide +kernel
theorem dX8_run_8 : decode cX8_run 8 = .ok (.iload_n 3, 1) := by decide +kernel
theorem dX8_run_9 : decode cX8_run 9 = .ok (.invokestatic 171, 3) := by decide +kernel
theorem dX8_run_12 : decode cX8_run 12 = .ok (.ifCond .eq 13, 3) := by decide +kernel
theorem dX8_run_15 : decode cX8_run 15 = .ok (.iload 4, 2) := by decide +kernel
theorem dX8_run_17 : decode cX8_run 17 = .ok (.iconst 0, 1) := by decide +kernel
theorem dX8_run_18 : decode cX8_run 18 = .ok (.iconst 5, 1) := by decide +kernel
theorem dX8_run_19 : decode cX8_run 19 = .ok (.invokestatic 61, 3) := by decide +kernel
theorem dX8_run_22 : decode cX8_run 22 = .ok (.ifCond .ne 7, 3) := by decide +kernel
theorem dX8_run_25 : decode cX8_run 25 = .ok (.sipush (-10001), 3) := by decide +kernel
theorem dX8_run_28 : decode cX8_run 28 = .ok (.ireturn, 1) := by decide +kernel
theorem dX8_run_29 : decode cX8_run 29 = .ok (.aload_n 0, 1) := by decide +kernel
theorem dX8_run_30 : decode cX8_run 30 = .ok (.iload_n 1, 1) := by decide +kernel
theorem dX8_run_31 : decode cX8_run 31 = .ok (.iload_n 2, 1) := by decide +kernel
theorem dX8_run_32 : decode cX8_run 32 = .ok (.iload_n 3, 1) := by decide +kernel
theorem dX8_run_33 : decode cX8_run 33 = .ok (.invokevirtual 174, 3) := by decide +kernel
theorem dX8_run_36 : decode cX8_run 36 = .ok (.aload_n 0, 1) := by decide +kernel
theorem dX8_run_37 : decode cX8_run 37 = .ok (.getfield 40, 3) := by decide +kernel
theorem dX8_run_40 : decode cX8_run 40 = .ok (.bipush 6, 2) := by decide +kernel
theorem dX8_run_42 : decode cX8_run 42 = .ok (.iload_n 1, 1) := by decide +kernel
theorem dX8_run_43 : decode cX8_run 43 = .ok (.imul, 1) := by decide +kernel
theorem dX8_run_44 : decode cX8_run 44 = .ok (.iload 4, 2) := by decide +kernel
theorem dX8_run_46 : decode cX8_run 46 = .ok (.iadd, 1) := by decide +kernel
theorem dX8_run_47 : decode cX8_run 47 = .ok (.iaload, 1) := by decide +kernel
theorem dX8_run_48 : decode cX8_run 48 = .ok (.ireturn, 1) := by decide +kernel
theorem dX8_told_0 : decode cX8_told 0 = .ok (.iload_n 1, 1) := by decide +kernel
theorem dX8_told_1 : decode cX8_told 1 = .ok (.invokestatic 107, 3) := by decide +kernel
theorem dX8_told_4 : decode cX8_told 4 = .ok (.ifCond .eq 16, 3) := by decide +kernel
theorem dX8_told_7 : decode cX8_told 7 = .ok (.iload_n 2, 1) := by decide +kernel
theorem dX8_told_8 : decode cX8_told 8 = .ok (.iload_n 3, 1) := by decide +kernel
theorem dX8_told_9 : decode cX8_told 9 = .ok (.invokestatic 171, 3) := by decide +kernel
theorem dX8_told_12 : decode cX8_told 12 = .ok (.ifCond .eq 8, 3) := by decide +kernel
theorem dX8_told_15 : decode cX8_told 15 = .ok (.iload 4, 2) := by decide +kernel
theorem dX8_told_17 : decode cX8_told 17 = .ok (.ifCond .ge 7, 3) := by decide +kernel
theorem dX8_told_20 : decode cX8_told 20 = .ok (.sipush (-10001), 3) := by decide +kernel
theorem dX8_told_23 : decode cX8_told 23 = .ok (.ireturn, 1) := by decide +kernel
theorem dX8_told_24 : decode cX8_told 24 = .ok (.aload_n 0, 1) := by decide +kernel
theorem dX8_told_25 : decode cX8_told 25 = .ok (.iload_n 1, 1) := by decide +kernel
theorem dX8_told_26 : decode cX8_told 26 = .ok (.iload_n 2, 1) := by decide +kernel
theorem dX8_told_27 : decode cX8_told 27 = .ok (.iload_n 3, 1) := by decide +kernel
theorem dX8_told_28 : decode cX8_told 28 = .ok (.invokevirtual 174, 3) := by decide +kernel
theorem dX8_told_31 : decode cX8_told 31 = .ok (.iload 4, 2) := by decide +kernel
theorem dX8_told_33 : decode cX8_told 33 = .ok (.bipush 40, 2) := by decide +kernel
theorem dX8_told_35 : decode cX8_told 35 = .ok (.aload_n 0, 1) := by decide +kernel
theorem dX8_told_36 : decode cX8_told 36 = .ok (.getfield 40, 3) := by decide +kernel
theorem dX8_told_39 : decode cX8_told 39 = .ok (.bipush 6, 2) := by decide +kernel
theorem dX8_told_41 : decode cX8_told 41 = .ok (.iload_n 1, 1) := by decide +kernel
theorem dX8_told_42 : decode cX8_told 42 = .ok (.imul, 1) := by decide +kernel
theorem dX8_told_43 : decode cX8_told 43 = .ok (.iconst 2, 1) := by decide +kernel
theorem dX8_told_44 : decode cX8_told 44 = .ok (.iadd, 1) := by decide +kernel
theorem dX8_told_45 : decode cX8_told 45 = .ok (.iaload, 1) := by decide +kernel
theorem dX8_told_46 : decode cX8_told 46 = .ok (.invokestatic 177, 3) := by decide +kernel
theorem dX8_told_49 : decode cX8_told 49 = .ok (.if_icmp .ge 18, 3) := by decide +kernel
theorem dX8_told_52 : decode cX8_told 52 = .ok (.aload_n 0, 1) := by decide +kernel
theorem dX8_told_53 : decode cX8_told 53 = .ok (.getfield 31, 3) := by decide +kernel
theorem dX8_told_56 : decode cX8_told 56 = .ok (.bipush 40, 2) := by decide +kernel
theorem dX8_told_58 : decode cX8_told 58 = .ok (.iload_n 1, 1) := by decide +kernel
theorem dX8_told_59 : decode cX8_told 59 = .ok (.imul, 1) := by decide +kernel
theorem dX8_told_60 : decode cX8_told 60 = .ok (.iload 4, 2) := by decide +kernel
theorem dX8_told_62 : decode cX8_told 62 = .ok (.iadd, 1) := by decide +kernel
theorem dX8_told_63 : decode cX8_told 63 = .ok (.iaload, 1) := by decide +kernel
theorem dX8_told_64 : decode cX8_told 64 = .ok (.goto 6, 3) := by decide +kernel
theorem dX8_told_67 : decode cX8_told 67 = .ok (.sipush (-10009), 3) := by decide +kernel
theorem dX8_told_70 : decode cX8_told 70 = .ok (.ireturn, 1) := by decide +kernel
theorem dX8_cell_0 : decode cX8_cell 0 = .ok (.iload_n 1, 1) := by decide +kernel
theorem dX8_cell_1 : decode cX8_cell 1 = .ok (.invokestatic 107, 3) := by decide +kernel
theorem dX8_cell_4 : decode cX8_cell 4 = .ok (.ifCond .eq 25, 3) := by decide +kernel
theorem dX8_cell_7 : decode cX8_cell 7 = .ok (.iload_n 2, 1) := by decide +kernel
theorem dX8_cell_8 : decode cX8_cell 8 = .ok (.iload_n 3, 1) := by decide +kernel
theorem dX8_cell_9 : decode cX8_cell 9 = .ok (.invokestatic 171, 3) := by decide +kernel
theorem dX8_cell_12 : decode cX8_cell 12 = .ok (.ifCond .eq 17, 3) := by decide +kernel
theorem dX8_cell_15 : decode cX8_cell 15 = .ok (.iload 4, 2) := by decide +kernel
theorem dX8_cell_17 : decode cX8_cell 17 = .ok (.iconst (-1), 1) := by decide +kernel
theorem dX8_cell_18 : decode cX8_cell 18 = .ok (.if_icmp .lt 11, 3) := by decide +kernel
theorem dX8_cell_21 : decode cX8_cell 21 = .ok (.iload 5, 2) := by decide +kernel
theorem dX8_cell_23 : decode cX8_cell 23 = .ok (.invokestatic 180, 3) := by decide +kernel
theorem dX8_cell_26 : decode cX8_cell 26 = .ok (.ifCond .ne 7, 3) := by decide +kernel
theorem dX8_cell_29 : decode cX8_cell 29 = .ok (.sipush (-10001), 3) := by decide +kernel
theorem dX8_cell_32 : decode cX8_cell 32 = .ok (.ireturn, 1) := by decide +kernel
theorem dX8_cell_33 : decode cX8_cell 33 = .ok (.aload_n 0, 1) := by decide +kernel
theorem dX8_cell_34 : decode cX8_cell 34 = .ok (.iload_n 1, 1) := by decide +kernel
theorem dX8_cell_35 : decode cX8_cell 35 = .ok (.iload_n 2, 1) := by decide +kernel
theorem dX8_cell_36 : decode cX8_cell 36 = .ok (.iload_n 3, 1) := by decide +kernel
