theorem dL_cell_0 : decode cL_cell 0 = .ok (.iload_n 1, 1) := by decide +kernel
theorem dL_cell_1 : decode cL_cell 1 = .ok (.aload_n 0, 1) := by decide +kernel
theorem dL_cell_2 : decode cL_cell 2 = .ok (.arraylength, 1) := by decide +kernel
theorem dL_cell_3 : decode cL_cell 3 = .ok (.if_icmp .ge 9, 3) := by decide +kernel
theorem dL_cell_6 : decode cL_cell 6 = .ok (.aload_n 0, 1) := by decide +kernel
theorem dL_cell_7 : decode cL_cell 7 = .ok (.iload_n 1, 1) := by decide +kernel
theorem dL_cell_8 : decode cL_cell 8 = .ok (.iaload, 1) := by decide +kernel
theorem dL_cell_9 : decode cL_cell 9 = .ok (.goto 7, 3) := by decide +kernel
theorem dL_cell_12 : decode cL_cell 12 = .ok (.ldc 7, 2) := by decide +kernel
theorem dL_cell_14 : decode cL_cell 14 = .ok (.iload_n 1, 1) := by decide +kernel
theorem dL_cell_15 : decode cL_cell 15 = .ok (.imul, 1) := by decide +kernel
theorem dL_cell_16 : decode cL_cell 16 = .ok (.ireturn, 1) := by decide +kernel
theorem dL_pick_0 : decode cL_pick 0 = .ok (.aload_n 0, 1) := by decide +kernel
theorem dL_pick_1 : decode cL_pick 1 = .ok (.iload_n 1, 1) := by decide +kernel
theorem dL_pick_2 : decode cL_pick 2 = .ok (.invokestatic 8, 3) := by decide +kernel
theorem dL_pick_5 : decode cL_pick 5 = .ok (.iconst 1, 1) := by decide +kernel
theorem dL_pick_6 : decode cL_pick 6 = .ok (.iushr, 1) := by decide +kernel
theorem dL_pick_7 : decode cL_pick 7 = .ok (.iload_n 2, 1) := by decide +kernel
theorem dL_pick_8 : decode cL_pick 8 = .ok (.irem, 1) := by decide +kernel
theorem dL_pick_9 : decode cL_pick 9 = .ok (.ireturn, 1) := by decide +kernel
theorem dL_reads_0 : decode cL_reads 0 = .ok (.iconst 0, 1) := by decide +kernel
theorem dL_reads_1 : decode cL_reads 1 = .ok (.istore_n 2, 1) := by decide +kernel
theorem dL_reads_2 : decode cL_reads 2 = .ok (.iload_n 2, 1) := by decide +kernel
theorem dL_reads_3 : decode cL_reads 3 = .ok (.aload_n 1, 1) := by decide +kernel
theorem dL_reads_4 : decode cL_reads 4 = .ok (.invokevirtual 143, 3) := by decide +kernel
theorem dL_reads_7 : decode cL_reads 7 = .ok (.if_icmp .ge 19, 3) := by decide +kernel
theorem dL_reads_10 : decode cL_reads 10 = .ok (.aload_n 0, 1) := by decide +kernel
theorem dL_reads_11 : decode cL_reads 11 = .ok (.aload_n 1, 1) := by decide +kernel
theorem dL_reads_12 : decode cL_reads 12 = .ok (.iload_n 2, 1) := by decide +kernel
theorem dL_reads_13 : decode cL_reads 13 = .ok (.invokevirtual 148, 3) := by decide +kernel
theorem dL_reads_16 : decode cL_reads 16 = .ok (.invokestatic 151, 3) := by decide +kernel
theorem dL_reads_19 : decode cL_reads 19 = .ok (.istore_n 3, 1) := by decide +kernel
theorem dL_reads_20 : decode cL_reads 20 = .ok (.iinc 2 1, 3) := by decide +kernel
theorem dL_reads_23 : decode cL_reads 23 = .ok (.goto (-21), 3) := by decide +kernel
theorem dL_reads_26 : decode cL_reads 26 = .ok (.aload_n 0, 1) := by decide +kernel
theorem dL_reads_27 : decode cL_reads 27 = .ok (.invokestatic 154, 3) := by decide +kernel
theorem dL_reads_30 : decode cL_reads 30 = .ok (.ireturn, 1) := by decide +kernel
theorem dL_law_0 : decode cL_law 0 = .ok (.new 15, 3) := by decide +kernel
theorem dL_law_3 : decode cL_law 3 = .ok (.dup, 1) := by decide +kernel
theorem dL_law_4 : decode cL_law 4 = .ok (.invokespecial 162, 3) := by decide +kernel
theorem dL_law_7 : decode cL_law 7 = .ok (.astore_n 1, 1) := by decide +kernel
theorem dL_law_8 : decode cL_law 8 = .ok (.bipush 60, 2) := by decide +kernel
theorem dL_law_10 : decode cL_law 10 = .ok (.newarray .long, 2) := by decide +kernel
theorem dL_law_12 : decode cL_law 12 = .ok (.astore_n 2, 1) := by decide +kernel
theorem dL_law_13 : decode cL_law 13 = .ok (.iconst 0, 1) := by decide +kernel
theorem dL_law_14 : decode cL_law 14 = .ok (.istore_n 3, 1) := by decide +kernel
theorem dL_law_15 : decode cL_law 15 = .ok (.aload_n 2, 1) := by decide +kernel
theorem dL_law_16 : decode cL_law 16 = .ok (.iload_n 3, 1) := by decide +kernel
theorem dL_law_17 : decode cL_law 17 = .ok (.aload_n 1, 1) := by decide +kernel
theorem dL_law_18 : decode cL_law 18 = .ok (.invokestatic 163, 3) := by decide +kernel
theorem dL_law_21 : decode cL_law 21 = .ok (.lastore, 1) := by decide +kernel
theorem dL_law_22 : decode cL_law 22 = .ok (.iconst 0, 1) := by decide +kernel
theorem dL_law_23 : decode cL_law 23 = .ok (.istore 4, 2) := by decide +kernel
theorem dL_law_25 : decode cL_law 25 = .ok (.iconst 0, 1) := by decide +kernel
theorem dL_law_26 : decode cL_law 26 = .ok (.istore 5, 2) := by decide +kernel
theorem dL_law_28 : decode cL_law 28 = .ok (.iload 5, 2) := by decide +kernel
theorem dL_law_30 : decode cL_law 30 = .ok (.bipush 48, 2) := by decide +kernel
theorem dL_law_32 : decode cL_law 32 = .ok (.if_icmp .ge 401, 3) := by decide +kernel
theorem dL_law_35 : decode cL_law 35 = .ok (.aload_n 1, 1) := by decide +kernel
theorem dL_law_36 : decode cL_law 36 = .ok (.invokestatic 163, 3) := by decide +kernel
theorem dL_law_39 : decode cL_law 39 = .ok (.lstore 6, 2) := by decide +kernel
theorem dL_law_41 : decode cL_law 41 = .ok (.aload_n 1, 1) := by decide +kernel
theorem dL_law_42 : decode cL_law 42 = .ok (.bipush 10, 2) := by decide +kernel
theorem dL_law_44 : decode cL_law 44 = .ok (.invokestatic 167, 3) := by decide +kernel
theorem dL_law_47 : decode cL_law 47 = .ok (.istore 8, 2) := by decide +kernel
theorem dL_law_49 : decode cL_law 49 = .ok (.iload 5, 2) := by decide +kernel
theorem dL_law_51 : decode cL_law 51 = .ok (.iconst 4, 1) := by decide +kernel
theorem dL_law_52 : decode cL_law 52 = .ok (.if_icmp .ge 7, 3) := by decide +kernel
theorem dL_law_55 : decode cL_law 55 = .ok (.iconst 0, 1) := by decide +kernel
theorem dL_law_56 : decode cL_law 56 = .ok (.goto 21, 3) := by decide +kernel
theorem dL_law_59 : decode cL_law 59 = .ok (.iload 5, 2) := by decide +kernel
theorem dL_law_61 : decode cL_law 61 = .ok (.iconst 5, 1) := by decide +kernel
theorem dL_law_62 : decode cL_law 62 = .ok (.if_icmp .ge 7, 3) := by decide +kernel
theorem dL_law_65 : decode cL_law 65 = .ok (.iconst 3, 1) := by decide +kernel
theorem dL_law_66 : decode cL_law 66 = .ok (.goto 11, 3) := by decide +kernel
theorem dL_law_69 : decode cL_law 69 = .ok (.aload_n 0, 1) := by decide +kernel
theorem dL_law_70 : decode cL_law 70 = .ok (.iload 4, 2) := by decide +kernel
theorem dL_law_72 : decode cL_law 72 = .ok (.bipush 31, 2) := by decide +kernel
theorem dL_law_74 : decode cL_law 74 = .ok (.invokestatic 169, 3) := by decide +kernel
theorem dL_law_77 : decode cL_law 77 = .ok (.istore 9, 2) := by decide +kernel
theorem dL_law_79 : decode cL_law 79 = .ok (.aload_n 1, 1) := by decide +kernel
theorem dL_law_80 : decode cL_law 80 = .ok (.iconst 0, 1) := by decide +kernel
theorem dL_law_81 : decode cL_law 81 = .ok (.invokestatic 167, 3) := by decide +kernel
theorem dL_law_84 : decode cL_law 84 = .ok (.istore 10, 2) := by decide +kernel
theorem dL_law_86 : decode cL_law 86 = .ok (.aload_n 0, 1) := by decide +kernel
theorem dL_law_87 : decode cL_law 87 = .ok (.iload 4, 2) := by decide +kernel
theorem dL_law_89 : decode cL_law 89 = .ok (.iconst 2, 1) := by decide +kernel
theorem dL_law_90 : decode cL_law 90 = .ok (.iadd, 1) := by decide +kernel
theorem dL_law_91 : decode cL_law 91 = .ok (.iload 10, 2) := by decide +kernel
theorem dL_law_93 : decode cL_law 93 = .ok (.iload 5, 2) := by decide +kernel
theorem dL_law_95 : decode cL_law 95 = .ok (.bipush 9, 2) := by decide +kernel
theorem dL_law_97 : decode cL_law 97 = .ok (.irem, 1) := by decide +kernel
theorem dL_law_98 : decode cL_law 98 = .ok (.bipush 8, 2) := by decide +kernel
theorem dL_law_100 : decode cL_law 100 = .ok (.if_icmp .eq 8, 3) := by decide +kernel
theorem dL_law_103 : decode cL_law 103 = .ok (.iload 10, 2) := by decide +kernel
theorem dL_law_105 : decode cL_law 105 = .ok (.ifCond .ne 7, 3) := by decide +kernel
theorem dL_law_108 : decode cL_law 108 = .ok (.iconst 1, 1) := by decide +kernel
theorem dL_law_109 : decode cL_law 109 = .ok (.goto 4, 3) := by decide +kernel
theorem dL_law_112 : decode cL_law 112 = .ok (.iconst 0, 1) := by decide +kernel
theorem dL_law_113 : decode cL_law 113 = .ok (.iadd, 1) := by decide +kernel
