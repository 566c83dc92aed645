theorem dL_does_376 : decode cL_does 376 = .ok (.invokevirtual 227, 3) := by decide +kernel
theorem dL_does_379 : decode cL_does 379 = .ok (.ldc 242, 2) := by decide +kernel
theorem dL_does_381 : decode cL_does 381 = .ok (.invokevirtual 222, 3) := by decide +kernel
theorem dL_does_384 : decode cL_does 384 = .ok (.iconst 1, 1) := by decide +kernel
theorem dL_does_385 : decode cL_does 385 = .ok (.iload 6, 2) := by decide +kernel
theorem dL_does_387 : decode cL_does 387 = .ok (.bipush 7, 2) := by decide +kernel
theorem dL_does_389 : decode cL_does 389 = .ok (.irem, 1) := by decide +kernel
theorem dL_does_390 : decode cL_does 390 = .ok (.iadd, 1) := by decide +kernel
theorem dL_does_391 : decode cL_does 391 = .ok (.invokevirtual 227, 3) := by decide +kernel
theorem dL_does_394 : decode cL_does 394 = .ok (.invokevirtual 232, 3) := by decide +kernel
theorem dL_does_397 : decode cL_does 397 = .ok (.goto 5, 3) := by decide +kernel
theorem dL_does_400 : decode cL_does 400 = .ok (.ldc 244, 2) := by decide +kernel
theorem dL_does_402 : decode cL_does 402 = .ok (.invokevirtual 222, 3) := by decide +kernel
theorem dL_does_405 : decode cL_does 405 = .ok (.invokevirtual 232, 3) := by decide +kernel
theorem dL_does_408 : decode cL_does 408 = .ok (.invokestatic 246, 3) := by decide +kernel
theorem dL_does_411 : decode cL_does 411 = .ok (.ireturn, 1) := by decide +kernel
theorem dL_sum_0 : decode cL_sum 0 = .ok (.lconst 0, 1) := by decide +kernel
theorem dL_sum_1 : decode cL_sum 1 = .ok (.lstore_n 1, 1) := by decide +kernel
theorem dL_sum_2 : decode cL_sum 2 = .ok (.iconst 0, 1) := by decide +kernel
theorem dL_sum_3 : decode cL_sum 3 = .ok (.istore_n 3, 1) := by decide +kernel
theorem dL_sum_4 : decode cL_sum 4 = .ok (.iload_n 3, 1) := by decide +kernel
theorem dL_sum_5 : decode cL_sum 5 = .ok (.bipush 10, 2) := by decide +kernel
theorem dL_sum_7 : decode cL_sum 7 = .ok (.if_icmp .ge 22, 3) := by decide +kernel
theorem dL_sum_10 : decode cL_sum 10 = .ok (.ldc2_w 250, 3) := by decide +kernel
theorem dL_sum_13 : decode cL_sum 13 = .ok (.lload_n 1, 1) := by decide +kernel
theorem dL_sum_14 : decode cL_sum 14 = .ok (.lmul, 1) := by decide +kernel
theorem dL_sum_15 : decode cL_sum 15 = .ok (.aload_n 0, 1) := by decide +kernel
theorem dL_sum_16 : decode cL_sum 16 = .ok (.iload_n 3, 1) := by decide +kernel
theorem dL_sum_17 : decode cL_sum 17 = .ok (.invokestatic 167, 3) := by decide +kernel
theorem dL_sum_20 : decode cL_sum 20 = .ok (.i2l, 1) := by decide +kernel
theorem dL_sum_21 : decode cL_sum 21 = .ok (.ladd, 1) := by decide +kernel
theorem dL_sum_22 : decode cL_sum 22 = .ok (.lstore_n 1, 1) := by decide +kernel
theorem dL_sum_23 : decode cL_sum 23 = .ok (.iinc 3 1, 3) := by decide +kernel
theorem dL_sum_26 : decode cL_sum 26 = .ok (.goto (-22), 3) := by decide +kernel
theorem dL_sum_29 : decode cL_sum 29 = .ok (.iconst 0, 1) := by decide +kernel
theorem dL_sum_30 : decode cL_sum 30 = .ok (.istore_n 3, 1) := by decide +kernel
theorem dL_sum_31 : decode cL_sum 31 = .ok (.iload_n 3, 1) := by decide +kernel
theorem dL_sum_32 : decode cL_sum 32 = .ok (.iconst 4, 1) := by decide +kernel
theorem dL_sum_33 : decode cL_sum 33 = .ok (.if_icmp .ge 23, 3) := by decide +kernel
theorem dL_sum_36 : decode cL_sum 36 = .ok (.ldc2_w 250, 3) := by decide +kernel
theorem dL_sum_39 : decode cL_sum 39 = .ok (.lload_n 1, 1) := by decide +kernel
theorem dL_sum_40 : decode cL_sum 40 = .ok (.lmul, 1) := by decide +kernel
theorem dL_sum_41 : decode cL_sum 41 = .ok (.aload_n 0, 1) := by decide +kernel
theorem dL_sum_42 : decode cL_sum 42 = .ok (.iload_n 3, 1) := by decide +kernel
theorem dL_sum_43 : decode cL_sum 43 = .ok (.iconst 0, 1) := by decide +kernel
theorem dL_sum_44 : decode cL_sum 44 = .ok (.invokestatic 252, 3) := by decide +kernel
theorem dL_sum_47 : decode cL_sum 47 = .ok (.i2l, 1) := by decide +kernel
theorem dL_sum_48 : decode cL_sum 48 = .ok (.ladd, 1) := by decide +kernel
theorem dL_sum_49 : decode cL_sum 49 = .ok (.lstore_n 1, 1) := by decide +kernel
theorem dL_sum_50 : decode cL_sum 50 = .ok (.iinc 3 1, 3) := by decide +kernel
theorem dL_sum_53 : decode cL_sum 53 = .ok (.goto (-22), 3) := by decide +kernel
theorem dL_sum_56 : decode cL_sum 56 = .ok (.iconst 0, 1) := by decide +kernel
theorem dL_sum_57 : decode cL_sum 57 = .ok (.istore_n 3, 1) := by decide +kernel
theorem dL_sum_58 : decode cL_sum 58 = .ok (.iload_n 3, 1) := by decide +kernel
theorem dL_sum_59 : decode cL_sum 59 = .ok (.aload_n 0, 1) := by decide +kernel
theorem dL_sum_60 : decode cL_sum 60 = .ok (.iconst 0, 1) := by decide +kernel
theorem dL_sum_61 : decode cL_sum 61 = .ok (.invokestatic 167, 3) := by decide +kernel
theorem dL_sum_64 : decode cL_sum 64 = .ok (.if_icmp .ge 40, 3) := by decide +kernel
theorem dL_sum_67 : decode cL_sum 67 = .ok (.iconst 0, 1) := by decide +kernel
theorem dL_sum_68 : decode cL_sum 68 = .ok (.istore 4, 2) := by decide +kernel
theorem dL_sum_70 : decode cL_sum 70 = .ok (.iload 4, 2) := by decide +kernel
theorem dL_sum_72 : decode cL_sum 72 = .ok (.bipush 7, 2) := by decide +kernel
theorem dL_sum_74 : decode cL_sum 74 = .ok (.if_icmp .ge 24, 3) := by decide +kernel
theorem dL_sum_77 : decode cL_sum 77 = .ok (.ldc2_w 250, 3) := by decide +kernel
theorem dL_sum_80 : decode cL_sum 80 = .ok (.lload_n 1, 1) := by decide +kernel
theorem dL_sum_81 : decode cL_sum 81 = .ok (.lmul, 1) := by decide +kernel
theorem dL_sum_82 : decode cL_sum 82 = .ok (.aload_n 0, 1) := by decide +kernel
theorem dL_sum_83 : decode cL_sum 83 = .ok (.iload_n 3, 1) := by decide +kernel
theorem dL_sum_84 : decode cL_sum 84 = .ok (.iload 4, 2) := by decide +kernel
theorem dL_sum_86 : decode cL_sum 86 = .ok (.invokestatic 254, 3) := by decide +kernel
theorem dL_sum_89 : decode cL_sum 89 = .ok (.i2l, 1) := by decide +kernel
theorem dL_sum_90 : decode cL_sum 90 = .ok (.ladd, 1) := by decide +kernel
theorem dL_sum_91 : decode cL_sum 91 = .ok (.lstore_n 1, 1) := by decide +kernel
theorem dL_sum_92 : decode cL_sum 92 = .ok (.iinc 4 1, 3) := by decide +kernel
theorem dL_sum_95 : decode cL_sum 95 = .ok (.goto (-25), 3) := by decide +kernel
theorem dL_sum_98 : decode cL_sum 98 = .ok (.iinc 3 1, 3) := by decide +kernel
theorem dL_sum_101 : decode cL_sum 101 = .ok (.goto (-43), 3) := by decide +kernel
theorem dL_sum_104 : decode cL_sum 104 = .ok (.ldc2_w 250, 3) := by decide +kernel
theorem dL_sum_107 : decode cL_sum 107 = .ok (.lload_n 1, 1) := by decide +kernel
theorem dL_sum_108 : decode cL_sum 108 = .ok (.lmul, 1) := by decide +kernel
theorem dL_sum_109 : decode cL_sum 109 = .ok (.aload_n 0, 1) := by decide +kernel
theorem dL_sum_110 : decode cL_sum 110 = .ok (.invokevirtual 256, 3) := by decide +kernel
theorem dL_sum_113 : decode cL_sum 113 = .ok (.i2l, 1) := by decide +kernel
theorem dL_sum_114 : decode cL_sum 114 = .ok (.ladd, 1) := by decide +kernel
theorem dL_sum_115 : decode cL_sum 115 = .ok (.lstore_n 1, 1) := by decide +kernel
theorem dL_sum_116 : decode cL_sum 116 = .ok (.iconst 0, 1) := by decide +kernel
theorem dL_sum_117 : decode cL_sum 117 = .ok (.istore_n 3, 1) := by decide +kernel
theorem dL_sum_118 : decode cL_sum 118 = .ok (.iload_n 3, 1) := by decide +kernel
theorem dL_sum_119 : decode cL_sum 119 = .ok (.iconst 3, 1) := by decide +kernel
theorem dL_sum_120 : decode cL_sum 120 = .ok (.aload_n 0, 1) := by decide +kernel
theorem dL_sum_121 : decode cL_sum 121 = .ok (.iconst 3, 1) := by decide +kernel
theorem dL_sum_122 : decode cL_sum 122 = .ok (.invokestatic 167, 3) := by decide +kernel
theorem dL_sum_125 : decode cL_sum 125 = .ok (.imul, 1) := by decide +kernel
theorem dL_sum_126 : decode cL_sum 126 = .ok (.iconst 1, 1) := by decide +kernel
theorem dL_sum_127 : decode cL_sum 127 = .ok (.isub, 1) := by decide +kernel
theorem dL_sum_128 : decode cL_sum 128 = .ok (.if_icmp .ge 22, 3) := by decide +kernel
theorem dL_sum_131 : decode cL_sum 131 = .ok (.ldc2_w 250, 3) := by decide +kernel
theorem dL_sum_134 : decode cL_sum 134 = .ok (.lload_n 1, 1) := by decide +kernel
theorem dL_sum_135 : decode cL_sum 135 = .ok (.lmul, 1) := by decide +kernel
theorem dL_sum_136 : decode cL_sum 136 = .ok (.aload_n 0, 1) := by decide +kernel
