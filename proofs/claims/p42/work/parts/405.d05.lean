theorem dL_sum_137 : decode cL_sum 137 = .ok (.iload_n 3, 1) := by decide +kernel
theorem dL_sum_138 : decode cL_sum 138 = .ok (.invokestatic 160, 3) := by decide +kernel
theorem dL_sum_141 : decode cL_sum 141 = .ok (.i2l, 1) := by decide +kernel
theorem dL_sum_142 : decode cL_sum 142 = .ok (.ladd, 1) := by decide +kernel
theorem dL_sum_143 : decode cL_sum 143 = .ok (.lstore_n 1, 1) := by decide +kernel
theorem dL_sum_144 : decode cL_sum 144 = .ok (.iinc 3 1, 3) := by decide +kernel
theorem dL_sum_147 : decode cL_sum 147 = .ok (.goto (-29), 3) := by decide +kernel
theorem dL_sum_150 : decode cL_sum 150 = .ok (.lload_n 1, 1) := by decide +kernel
theorem dL_sum_151 : decode cL_sum 151 = .ok (.lreturn, 1) := by decide +kernel
theorem dL_isBarrel_0 : decode cL_isBarrel 0 = .ok (.aload_n 0, 1) := by decide +kernel
theorem dL_isBarrel_1 : decode cL_isBarrel 1 = .ok (.iload_n 1, 1) := by decide +kernel
theorem dL_isBarrel_2 : decode cL_isBarrel 2 = .ok (.iconst 1, 1) := by decide +kernel
theorem dL_isBarrel_3 : decode cL_isBarrel 3 = .ok (.invokestatic 254, 3) := by decide +kernel
theorem dL_isBarrel_6 : decode cL_isBarrel 6 = .ok (.istore_n 3, 1) := by decide +kernel
theorem dL_isBarrel_7 : decode cL_isBarrel 7 = .ok (.aload_n 0, 1) := by decide +kernel
theorem dL_isBarrel_8 : decode cL_isBarrel 8 = .ok (.iload_n 1, 1) := by decide +kernel
theorem dL_isBarrel_9 : decode cL_isBarrel 9 = .ok (.iconst 2, 1) := by decide +kernel
theorem dL_isBarrel_10 : decode cL_isBarrel 10 = .ok (.invokestatic 254, 3) := by decide +kernel
theorem dL_isBarrel_13 : decode cL_isBarrel 13 = .ok (.istore 4, 2) := by decide +kernel
theorem dL_isBarrel_15 : decode cL_isBarrel 15 = .ok (.aload_n 0, 1) := by decide +kernel
theorem dL_isBarrel_16 : decode cL_isBarrel 16 = .ok (.iload_n 1, 1) := by decide +kernel
theorem dL_isBarrel_17 : decode cL_isBarrel 17 = .ok (.bipush 6, 2) := by decide +kernel
theorem dL_isBarrel_19 : decode cL_isBarrel 19 = .ok (.invokestatic 254, 3) := by decide +kernel
theorem dL_isBarrel_22 : decode cL_isBarrel 22 = .ok (.istore 5, 2) := by decide +kernel
theorem dL_isBarrel_24 : decode cL_isBarrel 24 = .ok (.aload_n 0, 1) := by decide +kernel
theorem dL_isBarrel_25 : decode cL_isBarrel 25 = .ok (.iload_n 1, 1) := by decide +kernel
theorem dL_isBarrel_26 : decode cL_isBarrel 26 = .ok (.iconst 5, 1) := by decide +kernel
theorem dL_isBarrel_27 : decode cL_isBarrel 27 = .ok (.invokestatic 254, 3) := by decide +kernel
theorem dL_isBarrel_30 : decode cL_isBarrel 30 = .ok (.istore 6, 2) := by decide +kernel
theorem dL_isBarrel_32 : decode cL_isBarrel 32 = .ok (.aload_n 0, 1) := by decide +kernel
theorem dL_isBarrel_33 : decode cL_isBarrel 33 = .ok (.iload_n 1, 1) := by decide +kernel
theorem dL_isBarrel_34 : decode cL_isBarrel 34 = .ok (.invokestatic 179, 3) := by decide +kernel
theorem dL_isBarrel_37 : decode cL_isBarrel 37 = .ok (.istore 7, 2) := by decide +kernel
theorem dL_isBarrel_39 : decode cL_isBarrel 39 = .ok (.iload_n 3, 1) := by decide +kernel
theorem dL_isBarrel_40 : decode cL_isBarrel 40 = .ok (.ifCond .ne 87, 3) := by decide +kernel
theorem dL_isBarrel_43 : decode cL_isBarrel 43 = .ok (.iload 4, 2) := by decide +kernel
theorem dL_isBarrel_45 : decode cL_isBarrel 45 = .ok (.ifCond .ne 80, 3) := by decide +kernel
theorem dL_isBarrel_48 : decode cL_isBarrel 48 = .ok (.aload_n 0, 1) := by decide +kernel
theorem dL_isBarrel_49 : decode cL_isBarrel 49 = .ok (.iload_n 1, 1) := by decide +kernel
theorem dL_isBarrel_50 : decode cL_isBarrel 50 = .ok (.iconst 3, 1) := by decide +kernel
theorem dL_isBarrel_51 : decode cL_isBarrel 51 = .ok (.invokestatic 254, 3) := by decide +kernel
theorem dL_isBarrel_54 : decode cL_isBarrel 54 = .ok (.iconst (-1), 1) := by decide +kernel
theorem dL_isBarrel_55 : decode cL_isBarrel 55 = .ok (.if_icmp .ne 70, 3) := by decide +kernel
theorem dL_isBarrel_58 : decode cL_isBarrel 58 = .ok (.aload_n 0, 1) := by decide +kernel
theorem dL_isBarrel_59 : decode cL_isBarrel 59 = .ok (.iload_n 1, 1) := by decide +kernel
theorem dL_isBarrel_60 : decode cL_isBarrel 60 = .ok (.iconst 4, 1) := by decide +kernel
theorem dL_isBarrel_61 : decode cL_isBarrel 61 = .ok (.invokestatic 254, 3) := by decide +kernel
theorem dL_isBarrel_64 : decode cL_isBarrel 64 = .ok (.ifCond .ne 61, 3) := by decide +kernel
theorem dL_isBarrel_67 : decode cL_isBarrel 67 = .ok (.iload 6, 2) := by decide +kernel
theorem dL_isBarrel_69 : decode cL_isBarrel 69 = .ok (.ifCond .ne 56, 3) := by decide +kernel
theorem dL_isBarrel_72 : decode cL_isBarrel 72 = .ok (.iload 5, 2) := by decide +kernel
theorem dL_isBarrel_74 : decode cL_isBarrel 74 = .ok (.ifCond .ne 51, 3) := by decide +kernel
theorem dL_isBarrel_77 : decode cL_isBarrel 77 = .ok (.aload_n 0, 1) := by decide +kernel
theorem dL_isBarrel_78 : decode cL_isBarrel 78 = .ok (.iload_n 1, 1) := by decide +kernel
theorem dL_isBarrel_79 : decode cL_isBarrel 79 = .ok (.invokestatic 177, 3) := by decide +kernel
theorem dL_isBarrel_82 : decode cL_isBarrel 82 = .ok (.bipush (-75), 2) := by decide +kernel
theorem dL_isBarrel_84 : decode cL_isBarrel 84 = .ok (.if_icmp .ne 41, 3) := by decide +kernel
theorem dL_isBarrel_87 : decode cL_isBarrel 87 = .ok (.aload_n 0, 1) := by decide +kernel
theorem dL_isBarrel_88 : decode cL_isBarrel 88 = .ok (.iload_n 1, 1) := by decide +kernel
theorem dL_isBarrel_89 : decode cL_isBarrel 89 = .ok (.invokestatic 259, 3) := by decide +kernel
theorem dL_isBarrel_92 : decode cL_isBarrel 92 = .ok (.bipush (-75), 2) := by decide +kernel
theorem dL_isBarrel_94 : decode cL_isBarrel 94 = .ok (.if_icmp .ne 31, 3) := by decide +kernel
theorem dL_isBarrel_97 : decode cL_isBarrel 97 = .ok (.iload 7, 2) := by decide +kernel
theorem dL_isBarrel_99 : decode cL_isBarrel 99 = .ok (.ifCond .ne 26, 3) := by decide +kernel
theorem dL_isBarrel_102 : decode cL_isBarrel 102 = .ok (.aload_n 0, 1) := by decide +kernel
theorem dL_isBarrel_103 : decode cL_isBarrel 103 = .ok (.iload_n 1, 1) := by decide +kernel
theorem dL_isBarrel_104 : decode cL_isBarrel 104 = .ok (.invokestatic 261, 3) := by decide +kernel
theorem dL_isBarrel_107 : decode cL_isBarrel 107 = .ok (.bipush (-75), 2) := by decide +kernel
theorem dL_isBarrel_109 : decode cL_isBarrel 109 = .ok (.if_icmp .ne 16, 3) := by decide +kernel
theorem dL_isBarrel_112 : decode cL_isBarrel 112 = .ok (.aload_n 0, 1) := by decide +kernel
theorem dL_isBarrel_113 : decode cL_isBarrel 113 = .ok (.iload_n 1, 1) := by decide +kernel
theorem dL_isBarrel_114 : decode cL_isBarrel 114 = .ok (.invokestatic 263, 3) := by decide +kernel
theorem dL_isBarrel_117 : decode cL_isBarrel 117 = .ok (.iconst 3, 1) := by decide +kernel
theorem dL_isBarrel_118 : decode cL_isBarrel 118 = .ok (.if_icmp .ne 7, 3) := by decide +kernel
theorem dL_isBarrel_121 : decode cL_isBarrel 121 = .ok (.iconst 1, 1) := by decide +kernel
theorem dL_isBarrel_122 : decode cL_isBarrel 122 = .ok (.goto 4, 3) := by decide +kernel
theorem dL_isBarrel_125 : decode cL_isBarrel 125 = .ok (.iconst 0, 1) := by decide +kernel
theorem dL_isBarrel_126 : decode cL_isBarrel 126 = .ok (.ireturn, 1) := by decide +kernel
theorem dL_isBarrel_127 : decode cL_isBarrel 127 = .ok (.bipush 9, 2) := by decide +kernel
theorem dL_isBarrel_129 : decode cL_isBarrel 129 = .ok (.aload_n 0, 1) := by decide +kernel
theorem dL_isBarrel_130 : decode cL_isBarrel 130 = .ok (.iload_n 1, 1) := by decide +kernel
theorem dL_isBarrel_131 : decode cL_isBarrel 131 = .ok (.iconst 4, 1) := by decide +kernel
theorem dL_isBarrel_132 : decode cL_isBarrel 132 = .ok (.invokestatic 254, 3) := by decide +kernel
theorem dL_isBarrel_135 : decode cL_isBarrel 135 = .ok (.iload 6, 2) := by decide +kernel
theorem dL_isBarrel_137 : decode cL_isBarrel 137 = .ok (.iconst 2, 1) := by decide +kernel
theorem dL_isBarrel_138 : decode cL_isBarrel 138 = .ok (.idiv, 1) := by decide +kernel
theorem dL_isBarrel_139 : decode cL_isBarrel 139 = .ok (.iadd, 1) := by decide +kernel
theorem dL_isBarrel_140 : decode cL_isBarrel 140 = .ok (.invokestatic 265, 3) := by decide +kernel
theorem dL_isBarrel_143 : decode cL_isBarrel 143 = .ok (.bipush 100, 2) := by decide +kernel
theorem dL_isBarrel_145 : decode cL_isBarrel 145 = .ok (.iload 5, 2) := by decide +kernel
theorem dL_isBarrel_147 : decode cL_isBarrel 147 = .ok (.isub, 1) := by decide +kernel
theorem dL_isBarrel_148 : decode cL_isBarrel 148 = .ok (.imul, 1) := by decide +kernel
theorem dL_isBarrel_149 : decode cL_isBarrel 149 = .ok (.bipush 100, 2) := by decide +kernel
theorem dL_isBarrel_151 : decode cL_isBarrel 151 = .ok (.idiv, 1) := by decide +kernel
theorem dL_isBarrel_152 : decode cL_isBarrel 152 = .ok (.istore 8, 2) := by decide +kernel
theorem dL_isBarrel_154 : decode cL_isBarrel 154 = .ok (.bipush 9, 2) := by decide +kernel
theorem dL_isBarrel_156 : decode cL_isBarrel 156 = .ok (.aload_n 0, 1) := by decide +kernel
theorem dL_isBarrel_157 : decode cL_isBarrel 157 = .ok (.iload_n 1, 1) := by decide +kernel
theorem dL_isBarrel_158 : decode cL_isBarrel 158 = .ok (.iconst 4, 1) := by decide +kernel
theorem dL_isBarrel_159 : decode cL_isBarrel 159 = .ok (.invokestatic 254, 3) := by decide +kernel
