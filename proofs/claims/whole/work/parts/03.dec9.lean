theorem dX9_init_0 : decode cX9_init 0 = .ok (.aload_n 0, 1) := by decide +kernel
theorem dX9_init_1 : decode cX9_init 1 = .ok (.invokespecial 1, 3) := by decide +kernel
theorem dX9_init_4 : decode cX9_init 4 = .ok (.aload_n 0, 1) := by decide +kernel
theorem dX9_init_5 : decode cX9_init 5 = .ok (.bipush 107, 2) := by decide +kernel
theorem dX9_init_7 : decode cX9_init 7 = .ok (.newarray .int, 2) := by decide +kernel
theorem dX9_init_9 : decode cX9_init 9 = .ok (.putfield 7, 3) := by decide +kernel
theorem dX9_init_12 : decode cX9_init 12 = .ok (.aload_n 0, 1) := by decide +kernel
theorem dX9_init_13 : decode cX9_init 13 = .ok (.bipush 107, 2) := by decide +kernel
theorem dX9_init_15 : decode cX9_init 15 = .ok (.newarray .int, 2) := by decide +kernel
theorem dX9_init_17 : decode cX9_init 17 = .ok (.putfield 13, 3) := by decide +kernel
theorem dX9_init_20 : decode cX9_init 20 = .ok (.aload_n 0, 1) := by decide +kernel
theorem dX9_init_21 : decode cX9_init 21 = .ok (.bipush 107, 2) := by decide +kernel
theorem dX9_init_23 : decode cX9_init 23 = .ok (.newarray .int, 2) := by decide +kernel
theorem dX9_init_25 : decode cX9_init 25 = .ok (.putfield 16, 3) := by decide +kernel
theorem dX9_init_28 : decode cX9_init 28 = .ok (.aload_n 0, 1) := by decide +kernel
theorem dX9_init_29 : decode cX9_init 29 = .ok (.sipush 856, 3) := by decide +kernel
theorem dX9_init_32 : decode cX9_init 32 = .ok (.newarray .int, 2) := by decide +kernel
theorem dX9_init_34 : decode cX9_init 34 = .ok (.putfield 19, 3) := by decide +kernel
theorem dX9_init_37 : decode cX9_init 37 = .ok (.aload_n 0, 1) := by decide +kernel
theorem dX9_init_38 : decode cX9_init 38 = .ok (.bipush 60, 2) := by decide +kernel
theorem dX9_init_40 : decode cX9_init 40 = .ok (.newarray .int, 2) := by decide +kernel
theorem dX9_init_42 : decode cX9_init 42 = .ok (.putfield 22, 3) := by decide +kernel
theorem dX9_init_45 : decode cX9_init 45 = .ok (.aload_n 0, 1) := by decide +kernel
theorem dX9_init_46 : decode cX9_init 46 = .ok (.sipush 240, 3) := by decide +kernel
theorem dX9_init_49 : decode cX9_init 49 = .ok (.newarray .int, 2) := by decide +kernel
theorem dX9_init_51 : decode cX9_init 51 = .ok (.putfield 25, 3) := by decide +kernel
theorem dX9_init_54 : decode cX9_init 54 = .ok (.aload_n 0, 1) := by decide +kernel
theorem dX9_init_55 : decode cX9_init 55 = .ok (.bipush 60, 2) := by decide +kernel
theorem dX9_init_57 : decode cX9_init 57 = .ok (.newarray .int, 2) := by decide +kernel
theorem dX9_init_59 : decode cX9_init 59 = .ok (.putfield 28, 3) := by decide +kernel
theorem dX9_init_62 : decode cX9_init 62 = .ok (.aload_n 0, 1) := by decide +kernel
theorem dX9_init_63 : decode cX9_init 63 = .ok (.iconst (-1), 1) := by decide +kernel
theorem dX9_init_64 : decode cX9_init 64 = .ok (.putfield 31, 3) := by decide +kernel
theorem dX9_init_67 : decode cX9_init 67 = .ok (.iconst 0, 1) := by decide +kernel
theorem dX9_init_68 : decode cX9_init 68 = .ok (.istore_n 1, 1) := by decide +kernel
theorem dX9_init_69 : decode cX9_init 69 = .ok (.iload_n 1, 1) := by decide +kernel
theorem dX9_init_70 : decode cX9_init 70 = .ok (.iconst 4, 1) := by decide +kernel
theorem dX9_init_71 : decode cX9_init 71 = .ok (.if_icmp .ge 19, 3) := by decide +kernel
theorem dX9_init_74 : decode cX9_init 74 = .ok (.aload_n 0, 1) := by decide +kernel
theorem dX9_init_75 : decode cX9_init 75 = .ok (.getfield 7, 3) := by decide +kernel
theorem dX9_init_78 : decode cX9_init 78 = .ok (.bipush 11, 2) := by decide +kernel
theorem dX9_init_80 : decode cX9_init 80 = .ok (.iload_n 1, 1) := by decide +kernel
theorem dX9_init_81 : decode cX9_init 81 = .ok (.iadd, 1) := by decide +kernel
theorem dX9_init_82 : decode cX9_init 82 = .ok (.iconst 3, 1) := by decide +kernel
theorem dX9_init_83 : decode cX9_init 83 = .ok (.iastore, 1) := by decide +kernel
theorem dX9_init_84 : decode cX9_init 84 = .ok (.iinc 1 1, 3) := by decide +kernel
theorem dX9_init_87 : decode cX9_init 87 = .ok (.goto (-18), 3) := by decide +kernel
theorem dX9_init_90 : decode cX9_init 90 = .ok (.return_, 1) := by decide +kernel
theorem dX9_thrown_0 : decode cX9_thrown 0 = .ok (.aload_n 0, 1) := by decide +kernel
theorem dX9_thrown_1 : decode cX9_thrown 1 = .ok (.getfield 35, 3) := by decide +kernel
theorem dX9_thrown_4 : decode cX9_thrown 4 = .ok (.ireturn, 1) := by decide +kernel
theorem dX9_fails_0 : decode cX9_fails 0 = .ok (.aload_n 0, 1) := by decide +kernel
theorem dX9_fails_1 : decode cX9_fails 1 = .ok (.iload_n 1, 1) := by decide +kernel
theorem dX9_fails_2 : decode cX9_fails 2 = .ok (.putfield 35, 3) := by decide +kernel
theorem dX9_fails_5 : decode cX9_fails 5 = .ok (.iconst 0, 1) := by decide +kernel
theorem dX9_fails_6 : decode cX9_fails 6 = .ok (.ireturn, 1) := by decide +kernel
theorem dX9_in_0 : decode cX9_in 0 = .ok (.iload_n 0, 1) := by decide +kernel
theorem dX9_in_1 : decode cX9_in 1 = .ok (.iload_n 1, 1) := by decide +kernel
theorem dX9_in_2 : decode cX9_in 2 = .ok (.if_icmp .lt 12, 3) := by decide +kernel
theorem dX9_in_5 : decode cX9_in 5 = .ok (.iload_n 0, 1) := by decide +kernel
theorem dX9_in_6 : decode cX9_in 6 = .ok (.iload_n 2, 1) := by decide +kernel
theorem dX9_in_7 : decode cX9_in 7 = .ok (.if_icmp .gt 7, 3) := by decide +kernel
theorem dX9_in_10 : decode cX9_in 10 = .ok (.iconst 1, 1) := by decide +kernel
theorem dX9_in_11 : decode cX9_in 11 = .ok (.goto 4, 3) := by decide +kernel
theorem dX9_in_14 : decode cX9_in 14 = .ok (.iconst 0, 1) := by decide +kernel
theorem dX9_in_15 : decode cX9_in 15 = .ok (.ireturn, 1) := by decide +kernel
theorem dX9_remembers_0 : decode cX9_remembers 0 = .ok (.aload_n 0, 1) := by decide +kernel
theorem dX9_remembers_1 : decode cX9_remembers 1 = .ok (.iconst 0, 1) := by decide +kernel
theorem dX9_remembers_2 : decode cX9_remembers 2 = .ok (.putfield 35, 3) := by decide +kernel
theorem dX9_remembers_5 : decode cX9_remembers 5 = .ok (.iconst 0, 1) := by decide +kernel
theorem dX9_remembers_6 : decode cX9_remembers 6 = .ok (.istore_n 1, 1) := by decide +kernel
theorem dX9_remembers_7 : decode cX9_remembers 7 = .ok (.iload_n 1, 1) := by decide +kernel
theorem dX9_remembers_8 : decode cX9_remembers 8 = .ok (.bipush 107, 2) := by decide +kernel
theorem dX9_remembers_10 : decode cX9_remembers 10 = .ok (.if_icmp .ge 21, 3) := by decide +kernel
theorem dX9_remembers_13 : decode cX9_remembers 13 = .ok (.aload_n 0, 1) := by decide +kernel
theorem dX9_remembers_14 : decode cX9_remembers 14 = .ok (.getfield 13, 3) := by decide +kernel
theorem dX9_remembers_17 : decode cX9_remembers 17 = .ok (.iload_n 1, 1) := by decide +kernel
theorem dX9_remembers_18 : decode cX9_remembers 18 = .ok (.aload_n 0, 1) := by decide +kernel
theorem dX9_remembers_19 : decode cX9_remembers 19 = .ok (.getfield 7, 3) := by decide +kernel
theorem dX9_remembers_22 : decode cX9_remembers 22 = .ok (.iload_n 1, 1) := by decide +kernel
theorem dX9_remembers_23 : decode cX9_remembers 23 = .ok (.iaload, 1) := by decide +kernel
theorem dX9_remembers_24 : decode cX9_remembers 24 = .ok (.iastore, 1) := by decide +kernel
theorem dX9_remembers_25 : decode cX9_remembers 25 = .ok (.iinc 1 1, 3) := by decide +kernel
theorem dX9_remembers_28 : decode cX9_remembers 28 = .ok (.goto (-21), 3) := by decide +kernel
theorem dX9_remembers_31 : decode cX9_remembers 31 = .ok (.return_, 1) := by decide +kernel
theorem dX9_changed_0 : decode cX9_changed 0 = .ok (.aload_n 0, 1) := by decide +kernel
theorem dX9_changed_1 : decode cX9_changed 1 = .ok (.getfield 38, 3) := by decide +kernel
theorem dX9_changed_4 : decode cX9_changed 4 = .ok (.bipush 8, 2) := by decide +kernel
theorem dX9_changed_6 : decode cX9_changed 6 = .ok (.if_icmp .ne 36, 3) := by decide +kernel
theorem dX9_changed_9 : decode cX9_changed 9 = .ok (.iconst 0, 1) := by decide +kernel
theorem dX9_changed_10 : decode cX9_changed 10 = .ok (.istore_n 2, 1) := by decide +kernel
theorem dX9_changed_11 : decode cX9_changed 11 = .ok (.iload_n 2, 1) := by decide +kernel
theorem dX9_changed_12 : decode cX9_changed 12 = .ok (.sipush 749, 3) := by decide +kernel
theorem dX9_changed_15 : decode cX9_changed 15 = .ok (.if_icmp .ge 24, 3) := by decide +kernel
theorem dX9_changed_18 : decode cX9_changed 18 = .ok (.aload_n 0, 1) := by decide +kernel
theorem dX9_changed_19 : decode cX9_changed 19 = .ok (.getfield 19, 3) := by decide +kernel
theorem dX9_changed_22 : decode cX9_changed 22 = .ok (.iload_n 2, 1) := by decide +kernel
theorem dX9_changed_23 : decode cX9_changed 23 = .ok (.aload_n 0, 1) := by decide +kernel
theorem dX9_changed_24 : decode cX9_changed 24 = .ok (.getfield 19, 3) := by decide +kernel
theorem dX9_changed_27 : decode cX9_changed 27 = .ok (.iload_n 2, 1) := by decide +kernel
theorem dX9_changed_28 : decode cX9_changed 28 = .ok (.bipush 107, 2) := by decide +kernel
theorem dX9_changed_30 : decode cX9_changed 30 = .ok (.iadd, 1) := by decide +kernel
theorem dX9_changed_31 : decode cX9_changed 31 = .ok (.iaload, 1) := by decide +kernel
theorem dX9_changed_32 : decode cX9_changed 32 = .ok (.iastore, 1) := by decide +kernel
theorem dX9_changed_33 : decode cX9_changed 33 = .ok (.iinc 2 1, 3) := by decide +kernel
theorem dX9_changed_36 : decode cX9_changed 36 = .ok (.goto (-25), 3) := by decide +kernel
theorem dX9_changed_39 : decode cX9_changed 39 = .ok (.goto 13, 3) := by decide +kernel
theorem dX9_changed_42 : decode cX9_changed 42 = .ok (.aload_n 0, 1) := by decide +kernel
theorem dX9_changed_43 : decode cX9_changed 43 = .ok (.dup, 1) := by decide +kernel
theorem dX9_changed_44 : decode cX9_changed 44 = .ok (.getfield 38, 3) := by decide +kernel
theorem dX9_changed_47 : decode cX9_changed 47 = .ok (.iconst 1, 1) := by decide +kernel
theorem dX9_changed_48 : decode cX9_changed 48 = .ok (.iadd, 1) := by decide +kernel
theorem dX9_changed_49 : decode cX9_changed 49 = .ok (.putfield 38, 3) := by decide +kernel
theorem dX9_changed_52 : decode cX9_changed 52 = .ok (.iconst 0, 1) := by decide +kernel
theorem dX9_changed_53 : decode cX9_changed 53 = .ok (.istore_n 2, 1) := by decide +kernel
theorem dX9_changed_54 : decode cX9_changed 54 = .ok (.iload_n 2, 1) := by decide +kernel
theorem dX9_changed_55 : decode cX9_changed 55 = .ok (.bipush 107, 2) := by decide +kernel
theorem dX9_changed_57 : decode cX9_changed 57 = .ok (.if_icmp .ge 31, 3) := by decide +kernel
theorem dX9_changed_60 : decode cX9_changed 60 = .ok (.aload_n 0, 1) := by decide +kernel
theorem dX9_changed_61 : decode cX9_changed 61 = .ok (.getfield 19, 3) := by decide +kernel
theorem dX9_changed_64 : decode cX9_changed 64 = .ok (.bipush 107, 2) := by decide +kernel
theorem dX9_changed_66 : decode cX9_changed 66 = .ok (.aload_n 0, 1) := by decide +kernel
theorem dX9_changed_67 : decode cX9_changed 67 = .ok (.getfield 38, 3) := by decide +kernel
theorem dX9_changed_70 : decode cX9_changed 70 = .ok (.iconst 1, 1) := by decide +kernel
theorem dX9_changed_71 : decode cX9_changed 71 = .ok (.isub, 1) := by decide +kernel
theorem dX9_changed_72 : decode cX9_changed 72 = .ok (.imul, 1) := by decide +kernel
theorem dX9_changed_73 : decode cX9_changed 73 = .ok (.iload_n 2, 1) := by decide +kernel
theorem dX9_changed_74 : decode cX9_changed 74 = .ok (.iadd, 1) := by decide +kernel
theorem dX9_changed_75 : decode cX9_changed 75 = .ok (.aload_n 0, 1) := by decide +kernel
theorem dX9_changed_76 : decode cX9_changed 76 = .ok (.getfield 13, 3) := by decide +kernel
theorem dX9_changed_79 : decode cX9_changed 79 = .ok (.iload_n 2, 1) := by decide +kernel
theorem dX9_changed_80 : decode cX9_changed 80 = .ok (.iaload, 1) := by decide +kernel
theorem dX9_changed_81 : decode cX9_changed 81 = .ok (.iastore, 1) := by decide +kernel
theorem dX9_changed_82 : decode cX9_changed 82 = .ok (.iinc 2 1, 3) := by decide +kernel
theorem dX9_changed_85 : decode cX9_changed 85 = .ok (.goto (-31), 3) := by decide +kernel
theorem dX9_changed_88 : decode cX9_changed 88 = .ok (.iload_n 1, 1) := by decide +kernel
theorem dX9_changed_89 : decode cX9_changed 89 = .ok (.ireturn, 1) := by decide +kernel
theorem dX9_refused_0 : decode cX9_refused 0 = .ok (.aload_n 0, 1) := by decide +kernel
theorem dX9_refused_1 : decode cX9_refused 1 = .ok (.iload_n 2, 1) := by decide +kernel
theorem dX9_refused_2 : decode cX9_refused 2 = .ok (.putfield 41, 3) := by decide +kernel
theorem dX9_refused_5 : decode cX9_refused 5 = .ok (.iload_n 1, 1) := by decide +kernel
theorem dX9_refused_6 : decode cX9_refused 6 = .ok (.ireturn, 1) := by decide +kernel
theorem dX9_done_0 : decode cX9_done 0 = .ok (.aload_n 0, 1) := by decide +kernel
theorem dX9_done_1 : decode cX9_done 1 = .ok (.iload_n 1, 1) := by decide +kernel
theorem dX9_done_2 : decode cX9_done 2 = .ok (.putfield 44, 3) := by decide +kernel
theorem dX9_done_5 : decode cX9_done 5 = .ok (.iconst 0, 1) := by decide +kernel
theorem dX9_done_6 : decode cX9_done 6 = .ok (.ireturn, 1) := by decide +kernel
theorem dX9_ends_0 : decode cX9_ends 0 = .ok (.iload_n 1, 1) := by decide +kernel
theorem dX9_ends_1 : decode cX9_ends 1 = .ok (.ifCond .ne 12, 3) := by decide +kernel
theorem dX9_ends_4 : decode cX9_ends 4 = .ok (.aload_n 0, 1) := by decide +kernel
theorem dX9_ends_5 : decode cX9_ends 5 = .ok (.aload_n 0, 1) := by decide +kernel
theorem dX9_ends_6 : decode cX9_ends 6 = .ok (.getfield 44, 3) := by decide +kernel
theorem dX9_ends_9 : decode cX9_ends 9 = .ok (.invokevirtual 47, 3) := by decide +kernel
theorem dX9_ends_12 : decode cX9_ends 12 = .ok (.ireturn, 1) := by decide +kernel
theorem dX9_ends_13 : decode cX9_ends 13 = .ok (.aload_n 0, 1) := by decide +kernel
theorem dX9_ends_14 : decode cX9_ends 14 = .ok (.iload_n 1, 1) := by decide +kernel
theorem dX9_ends_15 : decode cX9_ends 15 = .ok (.putfield 51, 3) := by decide +kernel
theorem dX9_ends_18 : decode cX9_ends 18 = .ok (.aload_n 0, 1) := by decide +kernel
theorem dX9_ends_19 : decode cX9_ends 19 = .ok (.aload_n 0, 1) := by decide +kernel
theorem dX9_ends_20 : decode cX9_ends 20 = .ok (.getfield 41, 3) := by decide +kernel
theorem dX9_ends_23 : decode cX9_ends 23 = .ok (.putfield 54, 3) := by decide +kernel
theorem dX9_ends_26 : decode cX9_ends 26 = .ok (.aload_n 0, 1) := by decide +kernel
theorem dX9_ends_27 : decode cX9_ends 27 = .ok (.iconst 0, 1) := by decide +kernel
theorem dX9_ends_28 : decode cX9_ends 28 = .ok (.putfield 57, 3) := by decide +kernel
theorem dX9_ends_31 : decode cX9_ends 31 = .ok (.aload_n 0, 1) := by decide +kernel
theorem dX9_ends_32 : decode cX9_ends 32 = .ok (.iconst 1, 1) := by decide +kernel
theorem dX9_ends_33 : decode cX9_ends 33 = .ok (.invokevirtual 60, 3) := by decide +kernel
theorem dX9_ends_36 : decode cX9_ends 36 = .ok (.ireturn, 1) := by decide +kernel
theorem dX9_isBarrel_0 : decode cX9_isBarrel 0 = .ok (.iload_n 1, 1) := by decide +kernel
theorem dX9_isBarrel_1 : decode cX9_isBarrel 1 = .ok (.iconst 0, 1) := by decide +kernel
theorem dX9_isBarrel_2 : decode cX9_isBarrel 2 = .ok (.aload_n 0, 1) := by decide +kernel
theorem dX9_isBarrel_3 : decode cX9_isBarrel 3 = .ok (.getfield 7, 3) := by decide +kernel
theorem dX9_isBarrel_6 : decode cX9_isBarrel 6 = .ok (.iconst 0, 1) := by decide +kernel
theorem dX9_isBarrel_7 : decode cX9_isBarrel 7 = .ok (.iaload, 1) := by decide +kernel
theorem dX9_isBarrel_8 : decode cX9_isBarrel 8 = .ok (.iconst 1, 1) := by decide +kernel
theorem dX9_isBarrel_9 : decode cX9_isBarrel 9 = .ok (.isub, 1) := by decide +kernel
theorem dX9_isBarrel_10 : decode cX9_isBarrel 10 = .ok (.invokestatic 63, 3) := by decide +kernel
theorem dX9_isBarrel_13 : decode cX9_isBarrel 13 = .ok (.ireturn, 1) := by decide +kernel
theorem dX9_isSommelier_0 : decode cX9_isSommelier 0 = .ok (.iload_n 1, 1) := by decide +kernel
theorem dX9_isSommelier_1 : decode cX9_isSommelier 1 = .ok (.iconst 0, 1) := by decide +kernel
theorem dX9_isSommelier_2 : decode cX9_isSommelier 2 = .ok (.aload_n 0, 1) := by decide +kernel
theorem dX9_isSommelier_3 : decode cX9_isSommelier 3 = .ok (.getfield 7, 3) := by decide +kernel
theorem dX9_isSommelier_6 : decode cX9_isSommelier 6 = .ok (.iconst 1, 1) := by decide +kernel
theorem dX9_isSommelier_7 : decode cX9_isSommelier 7 = .ok (.iaload, 1) := by decide +kernel
theorem dX9_isSommelier_8 : decode cX9_isSommelier 8 = .ok (.iconst 1, 1) := by decide +kernel
theorem dX9_isSommelier_9 : decode cX9_isSommelier 9 = .ok (.isub, 1) := by decide +kernel
theorem dX9_isSommelier_10 : decode cX9_isSommelier 10 = .ok (.invokestatic 63, 3) := by decide +kernel
theorem dX9_isSommelier_13 : decode cX9_isSommelier 13 = .ok (.ireturn, 1) := by decide +kernel
theorem dX9_of_0 : decode cX9_of 0 = .ok (.aload_n 0, 1) := by decide +kernel
theorem dX9_of_1 : decode cX9_of 1 = .ok (.getfield 7, 3) := by decide +kernel
theorem dX9_of_4 : decode cX9_of 4 = .ok (.bipush 15, 2) := by decide +kernel
theorem dX9_of_6 : decode cX9_of 6 = .ok (.bipush 6, 2) := by decide +kernel
theorem dX9_of_8 : decode cX9_of 8 = .ok (.iload_n 1, 1) := by decide +kernel
theorem dX9_of_9 : decode cX9_of 9 = .ok (.imul, 1) := by decide +kernel
theorem dX9_of_10 : decode cX9_of 10 = .ok (.iadd, 1) := by decide +kernel
theorem dX9_of_11 : decode cX9_of 11 = .ok (.iload_n 2, 1) := by decide +kernel
theorem dX9_of_12 : decode cX9_of 12 = .ok (.iadd, 1) := by decide +kernel
theorem dX9_of_13 : decode cX9_of 13 = .ok (.iaload, 1) := by decide +kernel
theorem dX9_of_14 : decode cX9_of 14 = .ok (.ireturn, 1) := by decide +kernel
theorem dX9_sets_0 : decode cX9_sets 0 = .ok (.aload_n 0, 1) := by decide +kernel
theorem dX9_sets_1 : decode cX9_sets 1 = .ok (.getfield 7, 3) := by decide +kernel
theorem dX9_sets_4 : decode cX9_sets 4 = .ok (.bipush 15, 2) := by decide +kernel
theorem dX9_sets_6 : decode cX9_sets 6 = .ok (.bipush 6, 2) := by decide +kernel
theorem dX9_sets_8 : decode cX9_sets 8 = .ok (.iload_n 1, 1) := by decide +kernel
theorem dX9_sets_9 : decode cX9_sets 9 = .ok (.imul, 1) := by decide +kernel
theorem dX9_sets_10 : decode cX9_sets 10 = .ok (.iadd, 1) := by decide +kernel
theorem dX9_sets_11 : decode cX9_sets 11 = .ok (.iload_n 2, 1) := by decide +kernel
theorem dX9_sets_12 : decode cX9_sets 12 = .ok (.iadd, 1) := by decide +kernel
theorem dX9_sets_13 : decode cX9_sets 13 = .ok (.iload_n 3, 1) := by decide +kernel
theorem dX9_sets_14 : decode cX9_sets 14 = .ok (.iastore, 1) := by decide +kernel
theorem dX9_sets_15 : decode cX9_sets 15 = .ok (.return_, 1) := by decide +kernel
theorem dX9_partOf_0 : decode cX9_partOf 0 = .ok (.iload_n 1, 1) := by decide +kernel
theorem dX9_partOf_1 : decode cX9_partOf 1 = .ok (.ifCond .ne 7, 3) := by decide +kernel
theorem dX9_partOf_4 : decode cX9_partOf 4 = .ok (.iconst 0, 1) := by decide +kernel
theorem dX9_partOf_5 : decode cX9_partOf 5 = .ok (.goto 9, 3) := by decide +kernel
theorem dX9_partOf_8 : decode cX9_partOf 8 = .ok (.bipush 100, 2) := by decide +kernel
theorem dX9_partOf_10 : decode cX9_partOf 10 = .ok (.iload_n 0, 1) := by decide +kernel
theorem dX9_partOf_11 : decode cX9_partOf 11 = .ok (.imul, 1) := by decide +kernel
theorem dX9_partOf_12 : decode cX9_partOf 12 = .ok (.iload_n 1, 1) := by decide +kernel
theorem dX9_partOf_13 : decode cX9_partOf 13 = .ok (.idiv, 1) := by decide +kernel
theorem dX9_partOf_14 : decode cX9_partOf 14 = .ok (.ireturn, 1) := by decide +kernel
theorem dX9_part_0 : decode cX9_part 0 = .ok (.aload_n 0, 1) := by decide +kernel
theorem dX9_part_1 : decode cX9_part 1 = .ok (.iload_n 1, 1) := by decide +kernel
theorem dX9_part_2 : decode cX9_part 2 = .ok (.iconst 2, 1) := by decide +kernel
theorem dX9_part_3 : decode cX9_part 3 = .ok (.invokevirtual 67, 3) := by decide +kernel
theorem dX9_part_6 : decode cX9_part 6 = .ok (.aload_n 0, 1) := by decide +kernel
theorem dX9_part_7 : decode cX9_part 7 = .ok (.iload_n 1, 1) := by decide +kernel
theorem dX9_part_8 : decode cX9_part 8 = .ok (.iconst 1, 1) := by decide +kernel
theorem dX9_part_9 : decode cX9_part 9 = .ok (.invokevirtual 67, 3) := by decide +kernel
theorem dX9_part_12 : decode cX9_part 12 = .ok (.invokestatic 71, 3) := by decide +kernel
theorem dX9_part_15 : decode cX9_part 15 = .ok (.ireturn, 1) := by decide +kernel
theorem dX9_ageOf_0 : decode cX9_ageOf 0 = .ok (.aload_n 0, 1) := by decide +kernel
theorem dX9_ageOf_1 : decode cX9_ageOf 1 = .ok (.iload_n 1, 1) := by decide +kernel
theorem dX9_ageOf_2 : decode cX9_ageOf 2 = .ok (.iconst 1, 1) := by decide +kernel
theorem dX9_ageOf_3 : decode cX9_ageOf 3 = .ok (.invokevirtual 67, 3) := by decide +kernel
theorem dX9_ageOf_6 : decode cX9_ageOf 6 = .ok (.ifCond .ne 7, 3) := by decide +kernel
theorem dX9_ageOf_9 : decode cX9_ageOf 9 = .ok (.iconst 0, 1) := by decide +kernel
theorem dX9_ageOf_10 : decode cX9_ageOf 10 = .ok (.goto 16, 3) := by decide +kernel
theorem dX9_ageOf_13 : decode cX9_ageOf 13 = .ok (.aload_n 0, 1) := by decide +kernel
theorem dX9_ageOf_14 : decode cX9_ageOf 14 = .ok (.getfield 7, 3) := by decide +kernel
theorem dX9_ageOf_17 : decode cX9_ageOf 17 = .ok (.iconst 3, 1) := by decide +kernel
theorem dX9_ageOf_18 : decode cX9_ageOf 18 = .ok (.iaload, 1) := by decide +kernel
theorem dX9_ageOf_19 : decode cX9_ageOf 19 = .ok (.aload_n 0, 1) := by decide +kernel
theorem dX9_ageOf_20 : decode cX9_ageOf 20 = .ok (.iload_n 1, 1) := by decide +kernel
theorem dX9_ageOf_21 : decode cX9_ageOf 21 = .ok (.iconst 5, 1) := by decide +kernel
theorem dX9_ageOf_22 : decode cX9_ageOf 22 = .ok (.invokevirtual 67, 3) := by decide +kernel
theorem dX9_ageOf_25 : decode cX9_ageOf 25 = .ok (.isub, 1) := by decide +kernel
theorem dX9_ageOf_26 : decode cX9_ageOf 26 = .ok (.ireturn, 1) := by decide +kernel
theorem dX9_noteOf_0 : decode cX9_noteOf 0 = .ok (.aload_n 0, 1) := by decide +kernel
theorem dX9_noteOf_1 : decode cX9_noteOf 1 = .ok (.iload_n 1, 1) := by decide +kernel
theorem dX9_noteOf_2 : decode cX9_noteOf 2 = .ok (.iconst 1, 1) := by decide +kernel
theorem dX9_noteOf_3 : decode cX9_noteOf 3 = .ok (.invokevirtual 67, 3) := by decide +kernel
theorem dX9_noteOf_6 : decode cX9_noteOf 6 = .ok (.ifCond .ne 5, 3) := by decide +kernel
theorem dX9_noteOf_9 : decode cX9_noteOf 9 = .ok (.iconst 0, 1) := by decide +kernel
theorem dX9_noteOf_10 : decode cX9_noteOf 10 = .ok (.ireturn, 1) := by decide +kernel
theorem dX9_noteOf_11 : decode cX9_noteOf 11 = .ok (.aload_n 0, 1) := by decide +kernel
theorem dX9_noteOf_12 : decode cX9_noteOf 12 = .ok (.iload_n 1, 1) := by decide +kernel
theorem dX9_noteOf_13 : decode cX9_noteOf 13 = .ok (.iconst 4, 1) := by decide +kernel
theorem dX9_noteOf_14 : decode cX9_noteOf 14 = .ok (.invokevirtual 67, 3) := by decide +kernel
theorem dX9_noteOf_17 : decode cX9_noteOf 17 = .ok (.aload_n 0, 1) := by decide +kernel
theorem dX9_noteOf_18 : decode cX9_noteOf 18 = .ok (.iload_n 1, 1) := by decide +kernel
theorem dX9_noteOf_19 : decode cX9_noteOf 19 = .ok (.invokevirtual 74, 3) := by decide +kernel
theorem dX9_noteOf_22 : decode cX9_noteOf 22 = .ok (.iload_n 2, 1) := by decide +kernel
theorem dX9_noteOf_23 : decode cX9_noteOf 23 = .ok (.iadd, 1) := by decide +kernel
theorem dX9_noteOf_24 : decode cX9_noteOf 24 = .ok (.iconst 2, 1) := by decide +kernel
theorem dX9_noteOf_25 : decode cX9_noteOf 25 = .ok (.idiv, 1) := by decide +kernel
theorem dX9_noteOf_26 : decode cX9_noteOf 26 = .ok (.iadd, 1) := by decide +kernel
theorem dX9_noteOf_27 : decode cX9_noteOf 27 = .ok (.istore_n 3, 1) := by decide +kernel
theorem dX9_noteOf_28 : decode cX9_noteOf 28 = .ok (.iload_n 3, 1) := by decide +kernel
theorem dX9_noteOf_29 : decode cX9_noteOf 29 = .ok (.bipush 9, 2) := by decide +kernel
theorem dX9_noteOf_31 : decode cX9_noteOf 31 = .ok (.if_icmp .le 8, 3) := by decide +kernel
theorem dX9_noteOf_34 : decode cX9_noteOf 34 = .ok (.bipush 9, 2) := by decide +kernel
theorem dX9_noteOf_36 : decode cX9_noteOf 36 = .ok (.goto 4, 3) := by decide +kernel
theorem dX9_noteOf_39 : decode cX9_noteOf 39 = .ok (.iload_n 3, 1) := by decide +kernel
theorem dX9_noteOf_40 : decode cX9_noteOf 40 = .ok (.bipush 100, 2) := by decide +kernel
theorem dX9_noteOf_42 : decode cX9_noteOf 42 = .ok (.aload_n 0, 1) := by decide +kernel
theorem dX9_noteOf_43 : decode cX9_noteOf 43 = .ok (.iload_n 1, 1) := by decide +kernel
theorem dX9_noteOf_44 : decode cX9_noteOf 44 = .ok (.invokevirtual 77, 3) := by decide +kernel
theorem dX9_noteOf_47 : decode cX9_noteOf 47 = .ok (.isub, 1) := by decide +kernel
theorem dX9_noteOf_48 : decode cX9_noteOf 48 = .ok (.imul, 1) := by decide +kernel
theorem dX9_noteOf_49 : decode cX9_noteOf 49 = .ok (.bipush 100, 2) := by decide +kernel
theorem dX9_noteOf_51 : decode cX9_noteOf 51 = .ok (.idiv, 1) := by decide +kernel
theorem dX9_noteOf_52 : decode cX9_noteOf 52 = .ok (.ireturn, 1) := by decide +kernel
theorem dX9_notes_0 : decode cX9_notes 0 = .ok (.aload_n 0, 1) := by decide +kernel
theorem dX9_notes_1 : decode cX9_notes 1 = .ok (.getfield 7, 3) := by decide +kernel
theorem dX9_notes_4 : decode cX9_notes 4 = .ok (.bipush 63, 2) := by decide +kernel
theorem dX9_notes_6 : decode cX9_notes 6 = .ok (.iconst 2, 1) := by decide +kernel
theorem dX9_notes_7 : decode cX9_notes 7 = .ok (.iload_n 1, 1) := by decide +kernel
theorem dX9_notes_8 : decode cX9_notes 8 = .ok (.imul, 1) := by decide +kernel
theorem dX9_notes_9 : decode cX9_notes 9 = .ok (.iadd, 1) := by decide +kernel
theorem dX9_notes_10 : decode cX9_notes 10 = .ok (.iaload, 1) := by decide +kernel
theorem dX9_notes_11 : decode cX9_notes 11 = .ok (.iconst 2, 1) := by decide +kernel
theorem dX9_notes_12 : decode cX9_notes 12 = .ok (.aload_n 0, 1) := by decide +kernel
theorem dX9_notes_13 : decode cX9_notes 13 = .ok (.getfield 7, 3) := by decide +kernel
theorem dX9_notes_16 : decode cX9_notes 16 = .ok (.bipush 63, 2) := by decide +kernel
theorem dX9_notes_18 : decode cX9_notes 18 = .ok (.iconst 2, 1) := by decide +kernel
theorem dX9_notes_19 : decode cX9_notes 19 = .ok (.iload_n 1, 1) := by decide +kernel
theorem dX9_notes_20 : decode cX9_notes 20 = .ok (.imul, 1) := by decide +kernel
theorem dX9_notes_21 : decode cX9_notes 21 = .ok (.iadd, 1) := by decide +kernel
theorem dX9_notes_22 : decode cX9_notes 22 = .ok (.iconst 1, 1) := by decide +kernel
theorem dX9_notes_23 : decode cX9_notes 23 = .ok (.iadd, 1) := by decide +kernel
theorem dX9_notes_24 : decode cX9_notes 24 = .ok (.iaload, 1) := by decide +kernel
theorem dX9_notes_25 : decode cX9_notes 25 = .ok (.imul, 1) := by decide +kernel
theorem dX9_notes_26 : decode cX9_notes 26 = .ok (.iadd, 1) := by decide +kernel
theorem dX9_notes_27 : decode cX9_notes 27 = .ok (.istore_n 3, 1) := by decide +kernel
theorem dX9_notes_28 : decode cX9_notes 28 = .ok (.iload_n 2, 1) := by decide +kernel
theorem dX9_notes_29 : decode cX9_notes 29 = .ok (.ifCond .le 17, 3) := by decide +kernel
theorem dX9_notes_32 : decode cX9_notes 32 = .ok (.iload_n 2, 1) := by decide +kernel
theorem dX9_notes_33 : decode cX9_notes 33 = .ok (.bipush 50, 2) := by decide +kernel
theorem dX9_notes_35 : decode cX9_notes 35 = .ok (.iconst 5, 1) := by decide +kernel
theorem dX9_notes_36 : decode cX9_notes 36 = .ok (.iload_n 3, 1) := by decide +kernel
theorem dX9_notes_37 : decode cX9_notes 37 = .ok (.imul, 1) := by decide +kernel
theorem dX9_notes_38 : decode cX9_notes 38 = .ok (.isub, 1) := by decide +kernel
theorem dX9_notes_39 : decode cX9_notes 39 = .ok (.if_icmp .le 7, 3) := by decide +kernel
theorem dX9_notes_42 : decode cX9_notes 42 = .ok (.iconst 1, 1) := by decide +kernel
theorem dX9_notes_43 : decode cX9_notes 43 = .ok (.goto 4, 3) := by decide +kernel
theorem dX9_notes_46 : decode cX9_notes 46 = .ok (.iconst 0, 1) := by decide +kernel
theorem dX9_notes_47 : decode cX9_notes 47 = .ok (.ireturn, 1) := by decide +kernel
theorem dX9_noses_0 : decode cX9_noses 0 = .ok (.iconst 0, 1) := by decide +kernel
theorem dX9_noses_1 : decode cX9_noses 1 = .ok (.istore_n 2, 1) := by decide +kernel
theorem dX9_noses_2 : decode cX9_noses 2 = .ok (.iconst 0, 1) := by decide +kernel
theorem dX9_noses_3 : decode cX9_noses 3 = .ok (.istore_n 3, 1) := by decide +kernel
theorem dX9_noses_4 : decode cX9_noses 4 = .ok (.iload_n 3, 1) := by decide +kernel
theorem dX9_noses_5 : decode cX9_noses 5 = .ok (.aload_n 0, 1) := by decide +kernel
theorem dX9_noses_6 : decode cX9_noses 6 = .ok (.getfield 7, 3) := by decide +kernel
theorem dX9_noses_9 : decode cX9_noses 9 = .ok (.iconst 1, 1) := by decide +kernel
theorem dX9_noses_10 : decode cX9_noses 10 = .ok (.iaload, 1) := by decide +kernel
theorem dX9_noses_11 : decode cX9_noses 11 = .ok (.if_icmp .ge 28, 3) := by decide +kernel
theorem dX9_noses_14 : decode cX9_noses 14 = .ok (.iload_n 2, 1) := by decide +kernel
theorem dX9_noses_15 : decode cX9_noses 15 = .ok (.aload_n 0, 1) := by decide +kernel
theorem dX9_noses_16 : decode cX9_noses 16 = .ok (.iload_n 3, 1) := by decide +kernel
theorem dX9_noses_17 : decode cX9_noses 17 = .ok (.iload_n 1, 1) := by decide +kernel
theorem dX9_noses_18 : decode cX9_noses 18 = .ok (.invokevirtual 80, 3) := by decide +kernel
theorem dX9_noses_21 : decode cX9_noses 21 = .ok (.ifCond .eq 9, 3) := by decide +kernel
theorem dX9_noses_24 : decode cX9_noses 24 = .ok (.iconst 1, 1) := by decide +kernel
theorem dX9_noses_25 : decode cX9_noses 25 = .ok (.iload_n 3, 1) := by decide +kernel
theorem dX9_noses_26 : decode cX9_noses 26 = .ok (.ishl, 1) := by decide +kernel
theorem dX9_noses_27 : decode cX9_noses 27 = .ok (.goto 4, 3) := by decide +kernel
theorem dX9_noses_30 : decode cX9_noses 30 = .ok (.iconst 0, 1) := by decide +kernel
theorem dX9_noses_31 : decode cX9_noses 31 = .ok (.ior, 1) := by decide +kernel
theorem dX9_noses_32 : decode cX9_noses 32 = .ok (.istore_n 2, 1) := by decide +kernel
theorem dX9_noses_33 : decode cX9_noses 33 = .ok (.iinc 3 1, 3) := by decide +kernel
theorem dX9_noses_36 : decode cX9_noses 36 = .ok (.goto (-32), 3) := by decide +kernel
theorem dX9_noses_39 : decode cX9_noses 39 = .ok (.iload_n 2, 1) := by decide +kernel
theorem dX9_noses_40 : decode cX9_noses 40 = .ok (.ireturn, 1) := by decide +kernel
theorem dX9_hailIn_0 : decode cX9_hailIn 0 = .ok (.aload_n 0, 1) := by decide +kernel
theorem dX9_hailIn_1 : decode cX9_hailIn 1 = .ok (.iload_n 1, 1) := by decide +kernel
theorem dX9_hailIn_2 : decode cX9_hailIn 2 = .ok (.invokevirtual 77, 3) := by decide +kernel
theorem dX9_hailIn_5 : decode cX9_hailIn 5 = .ok (.iload_n 2, 1) := by decide +kernel
theorem dX9_hailIn_6 : decode cX9_hailIn 6 = .ok (.imul, 1) := by decide +kernel
theorem dX9_hailIn_7 : decode cX9_hailIn 7 = .ok (.bipush 100, 2) := by decide +kernel
theorem dX9_hailIn_9 : decode cX9_hailIn 9 = .ok (.idiv, 1) := by decide +kernel
theorem dX9_hailIn_10 : decode cX9_hailIn 10 = .ok (.istore_n 3, 1) := by decide +kernel
theorem dX9_hailIn_11 : decode cX9_hailIn 11 = .ok (.iload_n 2, 1) := by decide +kernel
theorem dX9_hailIn_12 : decode cX9_hailIn 12 = .ok (.aload_n 0, 1) := by decide +kernel
theorem dX9_hailIn_13 : decode cX9_hailIn 13 = .ok (.iload_n 1, 1) := by decide +kernel
theorem dX9_hailIn_14 : decode cX9_hailIn 14 = .ok (.iconst 1, 1) := by decide +kernel
theorem dX9_hailIn_15 : decode cX9_hailIn 15 = .ok (.invokevirtual 67, 3) := by decide +kernel
theorem dX9_hailIn_18 : decode cX9_hailIn 18 = .ok (.aload_n 0, 1) := by decide +kernel
theorem dX9_hailIn_19 : decode cX9_hailIn 19 = .ok (.iload_n 1, 1) := by decide +kernel
theorem dX9_hailIn_20 : decode cX9_hailIn 20 = .ok (.iconst 2, 1) := by decide +kernel
theorem dX9_hailIn_21 : decode cX9_hailIn 21 = .ok (.invokevirtual 67, 3) := by decide +kernel
theorem dX9_hailIn_24 : decode cX9_hailIn 24 = .ok (.isub, 1) := by decide +kernel
theorem dX9_hailIn_25 : decode cX9_hailIn 25 = .ok (.isub, 1) := by decide +kernel
theorem dX9_hailIn_26 : decode cX9_hailIn 26 = .ok (.istore 4, 2) := by decide +kernel
theorem dX9_hailIn_28 : decode cX9_hailIn 28 = .ok (.iload_n 3, 1) := by decide +kernel
theorem dX9_hailIn_29 : decode cX9_hailIn 29 = .ok (.iload 4, 2) := by decide +kernel
theorem dX9_hailIn_31 : decode cX9_hailIn 31 = .ok (.if_icmp .ge 8, 3) := by decide +kernel
theorem dX9_hailIn_34 : decode cX9_hailIn 34 = .ok (.iload 4, 2) := by decide +kernel
theorem dX9_hailIn_36 : decode cX9_hailIn 36 = .ok (.goto 4, 3) := by decide +kernel
theorem dX9_hailIn_39 : decode cX9_hailIn 39 = .ok (.iload_n 3, 1) := by decide +kernel
theorem dX9_hailIn_40 : decode cX9_hailIn 40 = .ok (.ireturn, 1) := by decide +kernel
theorem dX9_empties_0 : decode cX9_empties 0 = .ok (.aload_n 0, 1) := by decide +kernel
theorem dX9_empties_1 : decode cX9_empties 1 = .ok (.iload_n 1, 1) := by decide +kernel
theorem dX9_empties_2 : decode cX9_empties 2 = .ok (.iconst 1, 1) := by decide +kernel
theorem dX9_empties_3 : decode cX9_empties 3 = .ok (.iconst 0, 1) := by decide +kernel
theorem dX9_empties_4 : decode cX9_empties 4 = .ok (.invokevirtual 84, 3) := by decide +kernel
theorem dX9_empties_7 : decode cX9_empties 7 = .ok (.aload_n 0, 1) := by decide +kernel
theorem dX9_empties_8 : decode cX9_empties 8 = .ok (.iload_n 1, 1) := by decide +kernel
theorem dX9_empties_9 : decode cX9_empties 9 = .ok (.iconst 2, 1) := by decide +kernel
theorem dX9_empties_10 : decode cX9_empties 10 = .ok (.iconst 0, 1) := by decide +kernel
theorem dX9_empties_11 : decode cX9_empties 11 = .ok (.invokevirtual 84, 3) := by decide +kernel
theorem dX9_empties_14 : decode cX9_empties 14 = .ok (.aload_n 0, 1) := by decide +kernel
theorem dX9_empties_15 : decode cX9_empties 15 = .ok (.iload_n 1, 1) := by decide +kernel
theorem dX9_empties_16 : decode cX9_empties 16 = .ok (.iconst 3, 1) := by decide +kernel
theorem dX9_empties_17 : decode cX9_empties 17 = .ok (.iconst (-1), 1) := by decide +kernel
theorem dX9_empties_18 : decode cX9_empties 18 = .ok (.invokevirtual 84, 3) := by decide +kernel
theorem dX9_empties_21 : decode cX9_empties 21 = .ok (.aload_n 0, 1) := by decide +kernel
theorem dX9_empties_22 : decode cX9_empties 22 = .ok (.iload_n 1, 1) := by decide +kernel
theorem dX9_empties_23 : decode cX9_empties 23 = .ok (.iconst 4, 1) := by decide +kernel
theorem dX9_empties_24 : decode cX9_empties 24 = .ok (.iconst 0, 1) := by decide +kernel
theorem dX9_empties_25 : decode cX9_empties 25 = .ok (.invokevirtual 84, 3) := by decide +kernel
theorem dX9_empties_28 : decode cX9_empties 28 = .ok (.aload_n 0, 1) := by decide +kernel
theorem dX9_empties_29 : decode cX9_empties 29 = .ok (.iload_n 1, 1) := by decide +kernel
theorem dX9_empties_30 : decode cX9_empties 30 = .ok (.iconst 5, 1) := by decide +kernel
theorem dX9_empties_31 : decode cX9_empties 31 = .ok (.iconst 0, 1) := by decide +kernel
theorem dX9_empties_32 : decode cX9_empties 32 = .ok (.invokevirtual 84, 3) := by decide +kernel
theorem dX9_empties_35 : decode cX9_empties 35 = .ok (.return_, 1) := by decide +kernel
theorem dX9_goes_0 : decode cX9_goes 0 = .ok (.aload_n 0, 1) := by decide +kernel
theorem dX9_goes_1 : decode cX9_goes 1 = .ok (.iload_n 1, 1) := by decide +kernel
theorem dX9_goes_2 : decode cX9_goes 2 = .ok (.iconst 1, 1) := by decide +kernel
theorem dX9_goes_3 : decode cX9_goes 3 = .ok (.aload_n 0, 1) := by decide +kernel
theorem dX9_goes_4 : decode cX9_goes 4 = .ok (.iload_n 1, 1) := by decide +kernel
theorem dX9_goes_5 : decode cX9_goes 5 = .ok (.iconst 1, 1) := by decide +kernel
theorem dX9_goes_6 : decode cX9_goes 6 = .ok (.invokevirtual 67, 3) := by decide +kernel
theorem dX9_goes_9 : decode cX9_goes 9 = .ok (.iload_n 2, 1) := by decide +kernel
theorem dX9_goes_10 : decode cX9_goes 10 = .ok (.isub, 1) := by decide +kernel
theorem dX9_goes_11 : decode cX9_goes 11 = .ok (.invokevirtual 84, 3) := by decide +kernel
theorem dX9_goes_14 : decode cX9_goes 14 = .ok (.aload_n 0, 1) := by decide +kernel
theorem dX9_goes_15 : decode cX9_goes 15 = .ok (.iload_n 1, 1) := by decide +kernel
theorem dX9_goes_16 : decode cX9_goes 16 = .ok (.iconst 2, 1) := by decide +kernel
theorem dX9_goes_17 : decode cX9_goes 17 = .ok (.aload_n 0, 1) := by decide +kernel
theorem dX9_goes_18 : decode cX9_goes 18 = .ok (.iload_n 1, 1) := by decide +kernel
theorem dX9_goes_19 : decode cX9_goes 19 = .ok (.iconst 2, 1) := by decide +kernel
theorem dX9_goes_20 : decode cX9_goes 20 = .ok (.invokevirtual 67, 3) := by decide +kernel
theorem dX9_goes_23 : decode cX9_goes 23 = .ok (.iload_n 3, 1) := by decide +kernel
theorem dX9_goes_24 : decode cX9_goes 24 = .ok (.isub, 1) := by decide +kernel
theorem dX9_goes_25 : decode cX9_goes 25 = .ok (.invokevirtual 84, 3) := by decide +kernel
theorem dX9_goes_28 : decode cX9_goes 28 = .ok (.aload_n 0, 1) := by decide +kernel
theorem dX9_goes_29 : decode cX9_goes 29 = .ok (.iload_n 1, 1) := by decide +kernel
theorem dX9_goes_30 : decode cX9_goes 30 = .ok (.iconst 1, 1) := by decide +kernel
theorem dX9_goes_31 : decode cX9_goes 31 = .ok (.invokevirtual 67, 3) := by decide +kernel
theorem dX9_goes_34 : decode cX9_goes 34 = .ok (.ifCond .ne 8, 3) := by decide +kernel
theorem dX9_goes_37 : decode cX9_goes 37 = .ok (.aload_n 0, 1) := by decide +kernel
theorem dX9_goes_38 : decode cX9_goes 38 = .ok (.iload_n 1, 1) := by decide +kernel
theorem dX9_goes_39 : decode cX9_goes 39 = .ok (.invokevirtual 88, 3) := by decide +kernel
theorem dX9_goes_42 : decode cX9_goes 42 = .ok (.return_, 1) := by decide +kernel
theorem dX9_caught_0 : decode cX9_caught 0 = .ok (.iload_n 1, 1) := by decide +kernel
theorem dX9_caught_1 : decode cX9_caught 1 = .ok (.iconst 1, 1) := by decide +kernel
theorem dX9_caught_2 : decode cX9_caught 2 = .ok (.iadd, 1) := by decide +kernel
theorem dX9_caught_3 : decode cX9_caught 3 = .ok (.iload_n 2, 1) := by decide +kernel
theorem dX9_caught_4 : decode cX9_caught 4 = .ok (.imul, 1) := by decide +kernel
theorem dX9_caught_5 : decode cX9_caught 5 = .ok (.istore_n 3, 1) := by decide +kernel
theorem dX9_caught_6 : decode cX9_caught 6 = .ok (.iconst 0, 1) := by decide +kernel
theorem dX9_caught_7 : decode cX9_caught 7 = .ok (.istore 4, 2) := by decide +kernel
theorem dX9_caught_9 : decode cX9_caught 9 = .ok (.iload 4, 2) := by decide +kernel
theorem dX9_caught_11 : decode cX9_caught 11 = .ok (.aload_n 0, 1) := by decide +kernel
theorem dX9_caught_12 : decode cX9_caught 12 = .ok (.getfield 7, 3) := by decide +kernel
theorem dX9_caught_15 : decode cX9_caught 15 = .ok (.iconst 0, 1) := by decide +kernel
theorem dX9_caught_16 : decode cX9_caught 16 = .ok (.iaload, 1) := by decide +kernel
theorem dX9_caught_17 : decode cX9_caught 17 = .ok (.if_icmp .ge 45, 3) := by decide +kernel
theorem dX9_caught_20 : decode cX9_caught 20 = .ok (.aload_n 0, 1) := by decide +kernel
theorem dX9_caught_21 : decode cX9_caught 21 = .ok (.iload 4, 2) := by decide +kernel
theorem dX9_caught_23 : decode cX9_caught 23 = .ok (.iconst 0, 1) := by decide +kernel
theorem dX9_caught_24 : decode cX9_caught 24 = .ok (.invokevirtual 67, 3) := by decide +kernel
theorem dX9_caught_27 : decode cX9_caught 27 = .ok (.iload_n 1, 1) := by decide +kernel
theorem dX9_caught_28 : decode cX9_caught 28 = .ok (.if_icmp .ne 28, 3) := by decide +kernel
theorem dX9_caught_31 : decode cX9_caught 31 = .ok (.aload_n 0, 1) := by decide +kernel
theorem dX9_caught_32 : decode cX9_caught 32 = .ok (.iload 4, 2) := by decide +kernel
theorem dX9_caught_34 : decode cX9_caught 34 = .ok (.iconst 1, 1) := by decide +kernel
theorem dX9_caught_35 : decode cX9_caught 35 = .ok (.invokevirtual 67, 3) := by decide +kernel
theorem dX9_caught_38 : decode cX9_caught 38 = .ok (.ifCond .ne 18, 3) := by decide +kernel
theorem dX9_caught_41 : decode cX9_caught 41 = .ok (.iload_n 3, 1) := by decide +kernel
theorem dX9_caught_42 : decode cX9_caught 42 = .ok (.bipush 20, 2) := by decide +kernel
theorem dX9_caught_44 : decode cX9_caught 44 = .ok (.if_icmp .le 10, 3) := by decide +kernel
theorem dX9_caught_47 : decode cX9_caught 47 = .ok (.iload_n 3, 1) := by decide +kernel
theorem dX9_caught_48 : decode cX9_caught 48 = .ok (.bipush 20, 2) := by decide +kernel
theorem dX9_caught_50 : decode cX9_caught 50 = .ok (.isub, 1) := by decide +kernel
theorem dX9_caught_51 : decode cX9_caught 51 = .ok (.goto 4, 3) := by decide +kernel
theorem dX9_caught_54 : decode cX9_caught 54 = .ok (.iconst 0, 1) := by decide +kernel
theorem dX9_caught_55 : decode cX9_caught 55 = .ok (.istore_n 3, 1) := by decide +kernel
theorem dX9_caught_56 : decode cX9_caught 56 = .ok (.iinc 4 1, 3) := by decide +kernel
theorem dX9_caught_59 : decode cX9_caught 59 = .ok (.goto (-50), 3) := by decide +kernel
theorem dX9_caught_62 : decode cX9_caught 62 = .ok (.iload_n 1, 1) := by decide +kernel
theorem dX9_caught_63 : decode cX9_caught 63 = .ok (.iconst 1, 1) := by decide +kernel
theorem dX9_caught_64 : decode cX9_caught 64 = .ok (.iadd, 1) := by decide +kernel
theorem dX9_caught_65 : decode cX9_caught 65 = .ok (.iload_n 2, 1) := by decide +kernel
theorem dX9_caught_66 : decode cX9_caught 66 = .ok (.imul, 1) := by decide +kernel
theorem dX9_caught_67 : decode cX9_caught 67 = .ok (.iload_n 3, 1) := by decide +kernel
theorem dX9_caught_68 : decode cX9_caught 68 = .ok (.isub, 1) := by decide +kernel
theorem dX9_caught_69 : decode cX9_caught 69 = .ok (.ireturn, 1) := by decide +kernel
theorem dX9_fills_0 : decode cX9_fills 0 = .ok (.iload_n 1, 1) := by decide +kernel
theorem dX9_fills_1 : decode cX9_fills 1 = .ok (.iconst 1, 1) := by decide +kernel
theorem dX9_fills_2 : decode cX9_fills 2 = .ok (.iadd, 1) := by decide +kernel
theorem dX9_fills_3 : decode cX9_fills 3 = .ok (.iload_n 2, 1) := by decide +kernel
theorem dX9_fills_4 : decode cX9_fills 4 = .ok (.imul, 1) := by decide +kernel
theorem dX9_fills_5 : decode cX9_fills 5 = .ok (.istore_n 3, 1) := by decide +kernel
theorem dX9_fills_6 : decode cX9_fills 6 = .ok (.iconst 0, 1) := by decide +kernel
theorem dX9_fills_7 : decode cX9_fills 7 = .ok (.istore 4, 2) := by decide +kernel
theorem dX9_fills_9 : decode cX9_fills 9 = .ok (.iload 4, 2) := by decide +kernel
theorem dX9_fills_11 : decode cX9_fills 11 = .ok (.aload_n 0, 1) := by decide +kernel
theorem dX9_fills_12 : decode cX9_fills 12 = .ok (.getfield 7, 3) := by decide +kernel
theorem dX9_fills_15 : decode cX9_fills 15 = .ok (.iconst 0, 1) := by decide +kernel
theorem dX9_fills_16 : decode cX9_fills 16 = .ok (.iaload, 1) := by decide +kernel
theorem dX9_fills_17 : decode cX9_fills 17 = .ok (.if_icmp .ge 107, 3) := by decide +kernel
theorem dX9_fills_20 : decode cX9_fills 20 = .ok (.iload_n 3, 1) := by decide +kernel
theorem dX9_fills_21 : decode cX9_fills 21 = .ok (.ifCond .le 103, 3) := by decide +kernel
theorem dX9_fills_24 : decode cX9_fills 24 = .ok (.aload_n 0, 1) := by decide +kernel
theorem dX9_fills_25 : decode cX9_fills 25 = .ok (.iload 4, 2) := by decide +kernel
theorem dX9_fills_27 : decode cX9_fills 27 = .ok (.iconst 0, 1) := by decide +kernel
theorem dX9_fills_28 : decode cX9_fills 28 = .ok (.invokevirtual 67, 3) := by decide +kernel
theorem dX9_fills_31 : decode cX9_fills 31 = .ok (.iload_n 1, 1) := by decide +kernel
theorem dX9_fills_32 : decode cX9_fills 32 = .ok (.if_icmp .ne 86, 3) := by decide +kernel
theorem dX9_fills_35 : decode cX9_fills 35 = .ok (.aload_n 0, 1) := by decide +kernel
theorem dX9_fills_36 : decode cX9_fills 36 = .ok (.iload 4, 2) := by decide +kernel
theorem dX9_fills_38 : decode cX9_fills 38 = .ok (.iconst 1, 1) := by decide +kernel
theorem dX9_fills_39 : decode cX9_fills 39 = .ok (.invokevirtual 67, 3) := by decide +kernel
theorem dX9_fills_42 : decode cX9_fills 42 = .ok (.ifCond .le 6, 3) := by decide +kernel
theorem dX9_fills_45 : decode cX9_fills 45 = .ok (.goto 73, 3) := by decide +kernel
theorem dX9_fills_48 : decode cX9_fills 48 = .ok (.iload_n 3, 1) := by decide +kernel
theorem dX9_fills_49 : decode cX9_fills 49 = .ok (.bipush 20, 2) := by decide +kernel
theorem dX9_fills_51 : decode cX9_fills 51 = .ok (.if_icmp .le 8, 3) := by decide +kernel
theorem dX9_fills_54 : decode cX9_fills 54 = .ok (.bipush 20, 2) := by decide +kernel
theorem dX9_fills_56 : decode cX9_fills 56 = .ok (.goto 4, 3) := by decide +kernel
theorem dX9_fills_59 : decode cX9_fills 59 = .ok (.iload_n 3, 1) := by decide +kernel
theorem dX9_fills_60 : decode cX9_fills 60 = .ok (.istore 5, 2) := by decide +kernel
theorem dX9_fills_62 : decode cX9_fills 62 = .ok (.aload_n 0, 1) := by decide +kernel
theorem dX9_fills_63 : decode cX9_fills 63 = .ok (.iload 4, 2) := by decide +kernel
theorem dX9_fills_65 : decode cX9_fills 65 = .ok (.iconst 1, 1) := by decide +kernel
theorem dX9_fills_66 : decode cX9_fills 66 = .ok (.iload 5, 2) := by decide +kernel
theorem dX9_fills_68 : decode cX9_fills 68 = .ok (.invokevirtual 84, 3) := by decide +kernel
theorem dX9_fills_71 : decode cX9_fills 71 = .ok (.aload_n 0, 1) := by decide +kernel
theorem dX9_fills_72 : decode cX9_fills 72 = .ok (.iload 4, 2) := by decide +kernel
theorem dX9_fills_74 : decode cX9_fills 74 = .ok (.iconst 3, 1) := by decide +kernel
theorem dX9_fills_75 : decode cX9_fills 75 = .ok (.aload_n 0, 1) := by decide +kernel
theorem dX9_fills_76 : decode cX9_fills 76 = .ok (.getfield 7, 3) := by decide +kernel
theorem dX9_fills_79 : decode cX9_fills 79 = .ok (.iconst 4, 1) := by decide +kernel
theorem dX9_fills_80 : decode cX9_fills 80 = .ok (.iaload, 1) := by decide +kernel
theorem dX9_fills_81 : decode cX9_fills 81 = .ok (.invokevirtual 84, 3) := by decide +kernel
theorem dX9_fills_84 : decode cX9_fills 84 = .ok (.aload_n 0, 1) := by decide +kernel
theorem dX9_fills_85 : decode cX9_fills 85 = .ok (.iload 4, 2) := by decide +kernel
theorem dX9_fills_87 : decode cX9_fills 87 = .ok (.iconst 4, 1) := by decide +kernel
theorem dX9_fills_88 : decode cX9_fills 88 = .ok (.aload_n 0, 1) := by decide +kernel
theorem dX9_fills_89 : decode cX9_fills 89 = .ok (.getfield 7, 3) := by decide +kernel
theorem dX9_fills_92 : decode cX9_fills 92 = .ok (.bipush 11, 2) := by decide +kernel
theorem dX9_fills_94 : decode cX9_fills 94 = .ok (.iload_n 1, 1) := by decide +kernel
theorem dX9_fills_95 : decode cX9_fills 95 = .ok (.iadd, 1) := by decide +kernel
theorem dX9_fills_96 : decode cX9_fills 96 = .ok (.iaload, 1) := by decide +kernel
theorem dX9_fills_97 : decode cX9_fills 97 = .ok (.invokevirtual 84, 3) := by decide +kernel
theorem dX9_fills_100 : decode cX9_fills 100 = .ok (.aload_n 0, 1) := by decide +kernel
theorem dX9_fills_101 : decode cX9_fills 101 = .ok (.iload 4, 2) := by decide +kernel
theorem dX9_fills_103 : decode cX9_fills 103 = .ok (.iconst 5, 1) := by decide +kernel
theorem dX9_fills_104 : decode cX9_fills 104 = .ok (.aload_n 0, 1) := by decide +kernel
theorem dX9_fills_105 : decode cX9_fills 105 = .ok (.getfield 7, 3) := by decide +kernel
theorem dX9_fills_108 : decode cX9_fills 108 = .ok (.iconst 3, 1) := by decide +kernel
theorem dX9_fills_109 : decode cX9_fills 109 = .ok (.iaload, 1) := by decide +kernel
theorem dX9_fills_110 : decode cX9_fills 110 = .ok (.invokevirtual 84, 3) := by decide +kernel
theorem dX9_fills_113 : decode cX9_fills 113 = .ok (.iload_n 3, 1) := by decide +kernel
theorem dX9_fills_114 : decode cX9_fills 114 = .ok (.iload 5, 2) := by decide +kernel
theorem dX9_fills_116 : decode cX9_fills 116 = .ok (.isub, 1) := by decide +kernel
theorem dX9_fills_117 : decode cX9_fills 117 = .ok (.istore_n 3, 1) := by decide +kernel
theorem dX9_fills_118 : decode cX9_fills 118 = .ok (.iinc 4 1, 3) := by decide +kernel
theorem dX9_fills_121 : decode cX9_fills 121 = .ok (.goto (-112), 3) := by decide +kernel
theorem dX9_fills_124 : decode cX9_fills 124 = .ok (.aload_n 0, 1) := by decide +kernel
theorem dX9_fills_125 : decode cX9_fills 125 = .ok (.getfield 7, 3) := by decide +kernel
theorem dX9_fills_128 : decode cX9_fills 128 = .ok (.bipush 7, 2) := by decide +kernel
theorem dX9_fills_130 : decode cX9_fills 130 = .ok (.dup2, 1) := by decide +kernel
theorem dX9_fills_131 : decode cX9_fills 131 = .ok (.iaload, 1) := by decide +kernel
theorem dX9_fills_132 : decode cX9_fills 132 = .ok (.iload_n 3, 1) := by decide +kernel
theorem dX9_fills_133 : decode cX9_fills 133 = .ok (.iadd, 1) := by decide +kernel
theorem dX9_fills_134 : decode cX9_fills 134 = .ok (.iastore, 1) := by decide +kernel
theorem dX9_fills_135 : decode cX9_fills 135 = .ok (.aload_n 0, 1) := by decide +kernel
theorem dX9_fills_136 : decode cX9_fills 136 = .ok (.getfield 7, 3) := by decide +kernel
theorem dX9_fills_139 : decode cX9_fills 139 = .ok (.bipush 11, 2) := by decide +kernel
theorem dX9_fills_141 : decode cX9_fills 141 = .ok (.iload_n 1, 1) := by decide +kernel
theorem dX9_fills_142 : decode cX9_fills 142 = .ok (.iadd, 1) := by decide +kernel
theorem dX9_fills_143 : decode cX9_fills 143 = .ok (.iaload, 1) := by decide +kernel
theorem dX9_fills_144 : decode cX9_fills 144 = .ok (.iload_n 2, 1) := by decide +kernel
theorem dX9_fills_145 : decode cX9_fills 145 = .ok (.iconst 3, 1) := by decide +kernel
theorem dX9_fills_146 : decode cX9_fills 146 = .ok (.idiv, 1) := by decide +kernel
theorem dX9_fills_147 : decode cX9_fills 147 = .ok (.isub, 1) := by decide +kernel
theorem dX9_fills_148 : decode cX9_fills 148 = .ok (.istore 4, 2) := by decide +kernel
theorem dX9_fills_150 : decode cX9_fills 150 = .ok (.aload_n 0, 1) := by decide +kernel
theorem dX9_fills_151 : decode cX9_fills 151 = .ok (.getfield 7, 3) := by decide +kernel
theorem dX9_fills_154 : decode cX9_fills 154 = .ok (.bipush 11, 2) := by decide +kernel
theorem dX9_fills_156 : decode cX9_fills 156 = .ok (.iload_n 1, 1) := by decide +kernel
theorem dX9_fills_157 : decode cX9_fills 157 = .ok (.iadd, 1) := by decide +kernel
theorem dX9_fills_158 : decode cX9_fills 158 = .ok (.iload 4, 2) := by decide +kernel
theorem dX9_fills_160 : decode cX9_fills 160 = .ok (.ifCond .ge 7, 3) := by decide +kernel
theorem dX9_fills_163 : decode cX9_fills 163 = .ok (.iconst 0, 1) := by decide +kernel
theorem dX9_fills_164 : decode cX9_fills 164 = .ok (.goto 5, 3) := by decide +kernel
theorem dX9_fills_167 : decode cX9_fills 167 = .ok (.iload 4, 2) := by decide +kernel
theorem dX9_fills_169 : decode cX9_fills 169 = .ok (.iastore, 1) := by decide +kernel
theorem dX9_fills_170 : decode cX9_fills 170 = .ok (.return_, 1) := by decide +kernel
theorem dX9_storms_0 : decode cX9_storms 0 = .ok (.iload_n 1, 1) := by decide +kernel
theorem dX9_storms_1 : decode cX9_storms 1 = .ok (.iconst 1, 1) := by decide +kernel
theorem dX9_storms_2 : decode cX9_storms 2 = .ok (.bipush 9, 2) := by decide +kernel
theorem dX9_storms_4 : decode cX9_storms 4 = .ok (.invokestatic 63, 3) := by decide +kernel
theorem dX9_storms_7 : decode cX9_storms 7 = .ok (.ifCond .eq 12, 3) := by decide +kernel
theorem dX9_storms_10 : decode cX9_storms 10 = .ok (.iload_n 2, 1) := by decide +kernel
theorem dX9_storms_11 : decode cX9_storms 11 = .ok (.iconst 0, 1) := by decide +kernel
theorem dX9_storms_12 : decode cX9_storms 12 = .ok (.iconst 3, 1) := by decide +kernel
theorem dX9_storms_13 : decode cX9_storms 13 = .ok (.invokestatic 63, 3) := by decide +kernel
theorem dX9_storms_16 : decode cX9_storms 16 = .ok (.ifCond .ne 10, 3) := by decide +kernel
theorem dX9_storms_19 : decode cX9_storms 19 = .ok (.aload_n 0, 1) := by decide +kernel
theorem dX9_storms_20 : decode cX9_storms 20 = .ok (.iconst 1, 1) := by decide +kernel
theorem dX9_storms_21 : decode cX9_storms 21 = .ok (.iconst 0, 1) := by decide +kernel
theorem dX9_storms_22 : decode cX9_storms 22 = .ok (.invokevirtual 92, 3) := by decide +kernel
theorem dX9_storms_25 : decode cX9_storms 25 = .ok (.ireturn, 1) := by decide +kernel
theorem dX9_storms_26 : decode cX9_storms 26 = .ok (.iconst 0, 1) := by decide +kernel
theorem dX9_storms_27 : decode cX9_storms 27 = .ok (.istore_n 3, 1) := by decide +kernel
theorem dX9_storms_28 : decode cX9_storms 28 = .ok (.iconst 0, 1) := by decide +kernel
theorem dX9_storms_29 : decode cX9_storms 29 = .ok (.istore 4, 2) := by decide +kernel
theorem dX9_storms_31 : decode cX9_storms 31 = .ok (.iload 4, 2) := by decide +kernel
theorem dX9_storms_33 : decode cX9_storms 33 = .ok (.iconst 4, 1) := by decide +kernel
theorem dX9_storms_34 : decode cX9_storms 34 = .ok (.if_icmp .ge 26, 3) := by decide +kernel
theorem dX9_storms_37 : decode cX9_storms 37 = .ok (.iload_n 3, 1) := by decide +kernel
theorem dX9_storms_38 : decode cX9_storms 38 = .ok (.aload_n 0, 1) := by decide +kernel
theorem dX9_storms_39 : decode cX9_storms 39 = .ok (.iload 4, 2) := by decide +kernel
theorem dX9_storms_41 : decode cX9_storms 41 = .ok (.iload_n 1, 1) := by decide +kernel
theorem dX9_storms_42 : decode cX9_storms 42 = .ok (.invokevirtual 95, 3) := by decide +kernel
theorem dX9_storms_45 : decode cX9_storms 45 = .ok (.iadd, 1) := by decide +kernel
theorem dX9_storms_46 : decode cX9_storms 46 = .ok (.istore_n 3, 1) := by decide +kernel
theorem dX9_storms_47 : decode cX9_storms 47 = .ok (.aload_n 0, 1) := by decide +kernel
theorem dX9_storms_48 : decode cX9_storms 48 = .ok (.iload 4, 2) := by decide +kernel
theorem dX9_storms_50 : decode cX9_storms 50 = .ok (.iload_n 1, 1) := by decide +kernel
theorem dX9_storms_51 : decode cX9_storms 51 = .ok (.invokevirtual 98, 3) := by decide +kernel
theorem dX9_storms_54 : decode cX9_storms 54 = .ok (.iinc 4 1, 3) := by decide +kernel
theorem dX9_storms_57 : decode cX9_storms 57 = .ok (.goto (-26), 3) := by decide +kernel
theorem dX9_storms_60 : decode cX9_storms 60 = .ok (.bipush 71, 2) := by decide +kernel
theorem dX9_storms_62 : decode cX9_storms 62 = .ok (.iconst 3, 1) := by decide +kernel
theorem dX9_storms_63 : decode cX9_storms 63 = .ok (.aload_n 0, 1) := by decide +kernel
theorem dX9_storms_64 : decode cX9_storms 64 = .ok (.getfield 7, 3) := by decide +kernel
theorem dX9_storms_67 : decode cX9_storms 67 = .ok (.iconst 4, 1) := by decide +kernel
theorem dX9_storms_68 : decode cX9_storms 68 = .ok (.iaload, 1) := by decide +kernel
theorem dX9_storms_69 : decode cX9_storms 69 = .ok (.bipush 12, 2) := by decide +kernel
theorem dX9_storms_71 : decode cX9_storms 71 = .ok (.irem, 1) := by decide +kernel
theorem dX9_storms_72 : decode cX9_storms 72 = .ok (.imul, 1) := by decide +kernel
theorem dX9_storms_73 : decode cX9_storms 73 = .ok (.iadd, 1) := by decide +kernel
theorem dX9_storms_74 : decode cX9_storms 74 = .ok (.istore 4, 2) := by decide +kernel
theorem dX9_storms_76 : decode cX9_storms 76 = .ok (.aload_n 0, 1) := by decide +kernel
theorem dX9_storms_77 : decode cX9_storms 77 = .ok (.getfield 7, 3) := by decide +kernel
theorem dX9_storms_80 : decode cX9_storms 80 = .ok (.iload 4, 2) := by decide +kernel
theorem dX9_storms_82 : decode cX9_storms 82 = .ok (.iload_n 1, 1) := by decide +kernel
theorem dX9_storms_83 : decode cX9_storms 83 = .ok (.iastore, 1) := by decide +kernel
theorem dX9_storms_84 : decode cX9_storms 84 = .ok (.aload_n 0, 1) := by decide +kernel
theorem dX9_storms_85 : decode cX9_storms 85 = .ok (.getfield 7, 3) := by decide +kernel
theorem dX9_storms_88 : decode cX9_storms 88 = .ok (.iload 4, 2) := by decide +kernel
theorem dX9_storms_90 : decode cX9_storms 90 = .ok (.iconst 1, 1) := by decide +kernel
theorem dX9_storms_91 : decode cX9_storms 91 = .ok (.iadd, 1) := by decide +kernel
theorem dX9_storms_92 : decode cX9_storms 92 = .ok (.aload_n 0, 1) := by decide +kernel
theorem dX9_storms_93 : decode cX9_storms 93 = .ok (.getfield 7, 3) := by decide +kernel
theorem dX9_storms_96 : decode cX9_storms 96 = .ok (.iconst 3, 1) := by decide +kernel
theorem dX9_storms_97 : decode cX9_storms 97 = .ok (.iaload, 1) := by decide +kernel
theorem dX9_storms_98 : decode cX9_storms 98 = .ok (.iastore, 1) := by decide +kernel
theorem dX9_storms_99 : decode cX9_storms 99 = .ok (.aload_n 0, 1) := by decide +kernel
theorem dX9_storms_100 : decode cX9_storms 100 = .ok (.getfield 7, 3) := by decide +kernel
theorem dX9_storms_103 : decode cX9_storms 103 = .ok (.iload 4, 2) := by decide +kernel
theorem dX9_storms_105 : decode cX9_storms 105 = .ok (.iconst 2, 1) := by decide +kernel
theorem dX9_storms_106 : decode cX9_storms 106 = .ok (.iadd, 1) := by decide +kernel
theorem dX9_storms_107 : decode cX9_storms 107 = .ok (.iload_n 3, 1) := by decide +kernel
theorem dX9_storms_108 : decode cX9_storms 108 = .ok (.iastore, 1) := by decide +kernel
theorem dX9_storms_109 : decode cX9_storms 109 = .ok (.aload_n 0, 1) := by decide +kernel
theorem dX9_storms_110 : decode cX9_storms 110 = .ok (.getfield 7, 3) := by decide +kernel
theorem dX9_storms_113 : decode cX9_storms 113 = .ok (.iconst 4, 1) := by decide +kernel
theorem dX9_storms_114 : decode cX9_storms 114 = .ok (.dup2, 1) := by decide +kernel
theorem dX9_storms_115 : decode cX9_storms 115 = .ok (.iaload, 1) := by decide +kernel
theorem dX9_storms_116 : decode cX9_storms 116 = .ok (.iconst 1, 1) := by decide +kernel
theorem dX9_storms_117 : decode cX9_storms 117 = .ok (.iadd, 1) := by decide +kernel
theorem dX9_storms_118 : decode cX9_storms 118 = .ok (.iastore, 1) := by decide +kernel
theorem dX9_storms_119 : decode cX9_storms 119 = .ok (.aload_n 0, 1) := by decide +kernel
theorem dX9_storms_120 : decode cX9_storms 120 = .ok (.getfield 7, 3) := by decide +kernel
theorem dX9_storms_123 : decode cX9_storms 123 = .ok (.iconst 5, 1) := by decide +kernel
theorem dX9_storms_124 : decode cX9_storms 124 = .ok (.dup2, 1) := by decide +kernel
theorem dX9_storms_125 : decode cX9_storms 125 = .ok (.iaload, 1) := by decide +kernel
theorem dX9_storms_126 : decode cX9_storms 126 = .ok (.iload_n 3, 1) := by decide +kernel
theorem dX9_storms_127 : decode cX9_storms 127 = .ok (.iadd, 1) := by decide +kernel
theorem dX9_storms_128 : decode cX9_storms 128 = .ok (.iastore, 1) := by decide +kernel
theorem dX9_storms_129 : decode cX9_storms 129 = .ok (.aload_n 0, 1) := by decide +kernel
theorem dX9_storms_130 : decode cX9_storms 130 = .ok (.getfield 7, 3) := by decide +kernel
theorem dX9_storms_133 : decode cX9_storms 133 = .ok (.iconst 2, 1) := by decide +kernel
theorem dX9_storms_134 : decode cX9_storms 134 = .ok (.aload_n 0, 1) := by decide +kernel
theorem dX9_storms_135 : decode cX9_storms 135 = .ok (.getfield 7, 3) := by decide +kernel
theorem dX9_storms_138 : decode cX9_storms 138 = .ok (.iconst 2, 1) := by decide +kernel
theorem dX9_storms_139 : decode cX9_storms 139 = .ok (.iaload, 1) := by decide +kernel
theorem dX9_storms_140 : decode cX9_storms 140 = .ok (.iconst 2, 1) := by decide +kernel
theorem dX9_storms_141 : decode cX9_storms 141 = .ok (.iload_n 2, 1) := by decide +kernel
theorem dX9_storms_142 : decode cX9_storms 142 = .ok (.imul, 1) := by decide +kernel
theorem dX9_storms_143 : decode cX9_storms 143 = .ok (.iadd, 1) := by decide +kernel
theorem dX9_storms_144 : decode cX9_storms 144 = .ok (.bipush 9, 2) := by decide +kernel
theorem dX9_storms_146 : decode cX9_storms 146 = .ok (.if_icmp .le 8, 3) := by decide +kernel
theorem dX9_storms_149 : decode cX9_storms 149 = .ok (.bipush 9, 2) := by decide +kernel
theorem dX9_storms_151 : decode cX9_storms 151 = .ok (.goto 13, 3) := by decide +kernel
theorem dX9_storms_154 : decode cX9_storms 154 = .ok (.aload_n 0, 1) := by decide +kernel
theorem dX9_storms_155 : decode cX9_storms 155 = .ok (.getfield 7, 3) := by decide +kernel
theorem dX9_storms_158 : decode cX9_storms 158 = .ok (.iconst 2, 1) := by decide +kernel
theorem dX9_storms_159 : decode cX9_storms 159 = .ok (.iaload, 1) := by decide +kernel
theorem dX9_storms_160 : decode cX9_storms 160 = .ok (.iconst 2, 1) := by decide +kernel
theorem dX9_storms_161 : decode cX9_storms 161 = .ok (.iload_n 2, 1) := by decide +kernel
theorem dX9_storms_162 : decode cX9_storms 162 = .ok (.imul, 1) := by decide +kernel
theorem dX9_storms_163 : decode cX9_storms 163 = .ok (.iadd, 1) := by decide +kernel
theorem dX9_storms_164 : decode cX9_storms 164 = .ok (.iastore, 1) := by decide +kernel
theorem dX9_storms_165 : decode cX9_storms 165 = .ok (.aload_n 0, 1) := by decide +kernel
theorem dX9_storms_166 : decode cX9_storms 166 = .ok (.iload_n 3, 1) := by decide +kernel
theorem dX9_storms_167 : decode cX9_storms 167 = .ok (.invokevirtual 102, 3) := by decide +kernel
theorem dX9_storms_170 : decode cX9_storms 170 = .ok (.ireturn, 1) := by decide +kernel
theorem dX9_places_0 : decode cX9_places 0 = .ok (.iload_n 1, 1) := by decide +kernel
theorem dX9_places_1 : decode cX9_places 1 = .ok (.iconst 0, 1) := by decide +kernel
theorem dX9_places_2 : decode cX9_places 2 = .ok (.iconst 3, 1) := by decide +kernel
theorem dX9_places_3 : decode cX9_places 3 = .ok (.invokestatic 63, 3) := by decide +kernel
theorem dX9_places_6 : decode cX9_places 6 = .ok (.ifCond .ne 10, 3) := by decide +kernel
theorem dX9_places_9 : decode cX9_places 9 = .ok (.aload_n 0, 1) := by decide +kernel
theorem dX9_places_10 : decode cX9_places 10 = .ok (.iconst 1, 1) := by decide +kernel
theorem dX9_places_11 : decode cX9_places 11 = .ok (.iconst 0, 1) := by decide +kernel
theorem dX9_places_12 : decode cX9_places 12 = .ok (.invokevirtual 92, 3) := by decide +kernel
theorem dX9_places_15 : decode cX9_places 15 = .ok (.ireturn, 1) := by decide +kernel
theorem dX9_places_16 : decode cX9_places 16 = .ok (.aload_n 0, 1) := by decide +kernel
theorem dX9_places_17 : decode cX9_places 17 = .ok (.getfield 7, 3) := by decide +kernel
theorem dX9_places_20 : decode cX9_places 20 = .ok (.iconst 0, 1) := by decide +kernel
theorem dX9_places_21 : decode cX9_places 21 = .ok (.iaload, 1) := by decide +kernel
theorem dX9_places_22 : decode cX9_places 22 = .ok (.istore_n 2, 1) := by decide +kernel
theorem dX9_places_23 : decode cX9_places 23 = .ok (.iload_n 2, 1) := by decide +kernel
theorem dX9_places_24 : decode cX9_places 24 = .ok (.bipush 8, 2) := by decide +kernel
theorem dX9_places_26 : decode cX9_places 26 = .ok (.if_icmp .ne 11, 3) := by decide +kernel
theorem dX9_places_29 : decode cX9_places 29 = .ok (.aload_n 0, 1) := by decide +kernel
theorem dX9_places_30 : decode cX9_places 30 = .ok (.iconst 2, 1) := by decide +kernel
theorem dX9_places_31 : decode cX9_places 31 = .ok (.bipush 8, 2) := by decide +kernel
theorem dX9_places_33 : decode cX9_places 33 = .ok (.invokevirtual 92, 3) := by decide +kernel
theorem dX9_places_36 : decode cX9_places 36 = .ok (.ireturn, 1) := by decide +kernel
theorem dX9_places_37 : decode cX9_places 37 = .ok (.aload_n 0, 1) := by decide +kernel
theorem dX9_places_38 : decode cX9_places 38 = .ok (.iload_n 2, 1) := by decide +kernel
theorem dX9_places_39 : decode cX9_places 39 = .ok (.iconst 0, 1) := by decide +kernel
theorem dX9_places_40 : decode cX9_places 40 = .ok (.iload_n 1, 1) := by decide +kernel
theorem dX9_places_41 : decode cX9_places 41 = .ok (.invokevirtual 84, 3) := by decide +kernel
theorem dX9_places_44 : decode cX9_places 44 = .ok (.aload_n 0, 1) := by decide +kernel
theorem dX9_places_45 : decode cX9_places 45 = .ok (.iload_n 2, 1) := by decide +kernel
theorem dX9_places_46 : decode cX9_places 46 = .ok (.invokevirtual 88, 3) := by decide +kernel
theorem dX9_places_49 : decode cX9_places 49 = .ok (.aload_n 0, 1) := by decide +kernel
theorem dX9_places_50 : decode cX9_places 50 = .ok (.getfield 7, 3) := by decide +kernel
theorem dX9_places_53 : decode cX9_places 53 = .ok (.iconst 0, 1) := by decide +kernel
theorem dX9_places_54 : decode cX9_places 54 = .ok (.iload_n 2, 1) := by decide +kernel
theorem dX9_places_55 : decode cX9_places 55 = .ok (.iconst 1, 1) := by decide +kernel
theorem dX9_places_56 : decode cX9_places 56 = .ok (.iadd, 1) := by decide +kernel
theorem dX9_places_57 : decode cX9_places 57 = .ok (.iastore, 1) := by decide +kernel
theorem dX9_places_58 : decode cX9_places 58 = .ok (.aload_n 0, 1) := by decide +kernel
theorem dX9_places_59 : decode cX9_places 59 = .ok (.iload_n 2, 1) := by decide +kernel
theorem dX9_places_60 : decode cX9_places 60 = .ok (.invokevirtual 102, 3) := by decide +kernel
theorem dX9_places_63 : decode cX9_places 63 = .ok (.ireturn, 1) := by decide +kernel
theorem dX9_takes_0 : decode cX9_takes 0 = .ok (.aload_n 0, 1) := by decide +kernel
theorem dX9_takes_1 : decode cX9_takes 1 = .ok (.iload_n 1, 1) := by decide +kernel
theorem dX9_takes_2 : decode cX9_takes 2 = .ok (.invokevirtual 105, 3) := by decide +kernel
theorem dX9_takes_5 : decode cX9_takes 5 = .ok (.ifCond .ne 15, 3) := by decide +kernel
theorem dX9_takes_8 : decode cX9_takes 8 = .ok (.aload_n 0, 1) := by decide +kernel
theorem dX9_takes_9 : decode cX9_takes 9 = .ok (.iconst 3, 1) := by decide +kernel
theorem dX9_takes_10 : decode cX9_takes 10 = .ok (.aload_n 0, 1) := by decide +kernel
theorem dX9_takes_11 : decode cX9_takes 11 = .ok (.getfield 7, 3) := by decide +kernel
theorem dX9_takes_14 : decode cX9_takes 14 = .ok (.iconst 0, 1) := by decide +kernel
theorem dX9_takes_15 : decode cX9_takes 15 = .ok (.iaload, 1) := by decide +kernel
theorem dX9_takes_16 : decode cX9_takes 16 = .ok (.invokevirtual 92, 3) := by decide +kernel
theorem dX9_takes_19 : decode cX9_takes 19 = .ok (.ireturn, 1) := by decide +kernel
theorem dX9_takes_20 : decode cX9_takes 20 = .ok (.aload_n 0, 1) := by decide +kernel
theorem dX9_takes_21 : decode cX9_takes 21 = .ok (.iload_n 1, 1) := by decide +kernel
theorem dX9_takes_22 : decode cX9_takes 22 = .ok (.iconst 1, 1) := by decide +kernel
theorem dX9_takes_23 : decode cX9_takes 23 = .ok (.invokevirtual 67, 3) := by decide +kernel
theorem dX9_takes_26 : decode cX9_takes 26 = .ok (.ifCond .le 15, 3) := by decide +kernel
theorem dX9_takes_29 : decode cX9_takes 29 = .ok (.aload_n 0, 1) := by decide +kernel
theorem dX9_takes_30 : decode cX9_takes 30 = .ok (.iconst 5, 1) := by decide +kernel
theorem dX9_takes_31 : decode cX9_takes 31 = .ok (.aload_n 0, 1) := by decide +kernel
theorem dX9_takes_32 : decode cX9_takes 32 = .ok (.iload_n 1, 1) := by decide +kernel
theorem dX9_takes_33 : decode cX9_takes 33 = .ok (.iconst 1, 1) := by decide +kernel
theorem dX9_takes_34 : decode cX9_takes 34 = .ok (.invokevirtual 67, 3) := by decide +kernel
theorem dX9_takes_37 : decode cX9_takes 37 = .ok (.invokevirtual 92, 3) := by decide +kernel
theorem dX9_takes_40 : decode cX9_takes 40 = .ok (.ireturn, 1) := by decide +kernel
theorem dX9_takes_41 : decode cX9_takes 41 = .ok (.aload_n 0, 1) := by decide +kernel
theorem dX9_takes_42 : decode cX9_takes 42 = .ok (.getfield 7, 3) := by decide +kernel
theorem dX9_takes_45 : decode cX9_takes 45 = .ok (.iconst 0, 1) := by decide +kernel
theorem dX9_takes_46 : decode cX9_takes 46 = .ok (.iaload, 1) := by decide +kernel
theorem dX9_takes_47 : decode cX9_takes 47 = .ok (.iconst 1, 1) := by decide +kernel
theorem dX9_takes_48 : decode cX9_takes 48 = .ok (.isub, 1) := by decide +kernel
theorem dX9_takes_49 : decode cX9_takes 49 = .ok (.istore_n 2, 1) := by decide +kernel
theorem dX9_takes_50 : decode cX9_takes 50 = .ok (.bipush 6, 2) := by decide +kernel
theorem dX9_takes_52 : decode cX9_takes 52 = .ok (.iload_n 1, 1) := by decide +kernel
theorem dX9_takes_53 : decode cX9_takes 53 = .ok (.imul, 1) := by decide +kernel
theorem dX9_takes_54 : decode cX9_takes 54 = .ok (.istore_n 3, 1) := by decide +kernel
theorem dX9_takes_55 : decode cX9_takes 55 = .ok (.iload_n 3, 1) := by decide +kernel
theorem dX9_takes_56 : decode cX9_takes 56 = .ok (.bipush 6, 2) := by decide +kernel
theorem dX9_takes_58 : decode cX9_takes 58 = .ok (.iload_n 2, 1) := by decide +kernel
theorem dX9_takes_59 : decode cX9_takes 59 = .ok (.imul, 1) := by decide +kernel
theorem dX9_takes_60 : decode cX9_takes 60 = .ok (.if_icmp .ge 30, 3) := by decide +kernel
theorem dX9_takes_63 : decode cX9_takes 63 = .ok (.aload_n 0, 1) := by decide +kernel
theorem dX9_takes_64 : decode cX9_takes 64 = .ok (.getfield 7, 3) := by decide +kernel
theorem dX9_takes_67 : decode cX9_takes 67 = .ok (.bipush 15, 2) := by decide +kernel
theorem dX9_takes_69 : decode cX9_takes 69 = .ok (.iload_n 3, 1) := by decide +kernel
theorem dX9_takes_70 : decode cX9_takes 70 = .ok (.iadd, 1) := by decide +kernel
theorem dX9_takes_71 : decode cX9_takes 71 = .ok (.aload_n 0, 1) := by decide +kernel
theorem dX9_takes_72 : decode cX9_takes 72 = .ok (.getfield 7, 3) := by decide +kernel
theorem dX9_takes_75 : decode cX9_takes 75 = .ok (.bipush 15, 2) := by decide +kernel
theorem dX9_takes_77 : decode cX9_takes 77 = .ok (.iload_n 3, 1) := by decide +kernel
theorem dX9_takes_78 : decode cX9_takes 78 = .ok (.iadd, 1) := by decide +kernel
theorem dX9_takes_79 : decode cX9_takes 79 = .ok (.bipush 6, 2) := by decide +kernel
theorem dX9_takes_81 : decode cX9_takes 81 = .ok (.iadd, 1) := by decide +kernel
theorem dX9_takes_82 : decode cX9_takes 82 = .ok (.iaload, 1) := by decide +kernel
theorem dX9_takes_83 : decode cX9_takes 83 = .ok (.iastore, 1) := by decide +kernel
theorem dX9_takes_84 : decode cX9_takes 84 = .ok (.iinc 3 1, 3) := by decide +kernel
theorem dX9_takes_87 : decode cX9_takes 87 = .ok (.goto (-32), 3) := by decide +kernel
theorem dX9_takes_90 : decode cX9_takes 90 = .ok (.iconst 0, 1) := by decide +kernel
theorem dX9_takes_91 : decode cX9_takes 91 = .ok (.istore_n 3, 1) := by decide +kernel
theorem dX9_takes_92 : decode cX9_takes 92 = .ok (.iload_n 3, 1) := by decide +kernel
theorem dX9_takes_93 : decode cX9_takes 93 = .ok (.bipush 6, 2) := by decide +kernel
theorem dX9_takes_95 : decode cX9_takes 95 = .ok (.if_icmp .ge 24, 3) := by decide +kernel
theorem dX9_takes_98 : decode cX9_takes 98 = .ok (.aload_n 0, 1) := by decide +kernel
theorem dX9_takes_99 : decode cX9_takes 99 = .ok (.getfield 7, 3) := by decide +kernel
theorem dX9_takes_102 : decode cX9_takes 102 = .ok (.bipush 15, 2) := by decide +kernel
theorem dX9_takes_104 : decode cX9_takes 104 = .ok (.bipush 6, 2) := by decide +kernel
theorem dX9_takes_106 : decode cX9_takes 106 = .ok (.iload_n 2, 1) := by decide +kernel
theorem dX9_takes_107 : decode cX9_takes 107 = .ok (.imul, 1) := by decide +kernel
theorem dX9_takes_108 : decode cX9_takes 108 = .ok (.iadd, 1) := by decide +kernel
theorem dX9_takes_109 : decode cX9_takes 109 = .ok (.iload_n 3, 1) := by decide +kernel
theorem dX9_takes_110 : decode cX9_takes 110 = .ok (.iadd, 1) := by decide +kernel
theorem dX9_takes_111 : decode cX9_takes 111 = .ok (.iconst 0, 1) := by decide +kernel
theorem dX9_takes_112 : decode cX9_takes 112 = .ok (.iastore, 1) := by decide +kernel
theorem dX9_takes_113 : decode cX9_takes 113 = .ok (.iinc 3 1, 3) := by decide +kernel
theorem dX9_takes_116 : decode cX9_takes 116 = .ok (.goto (-24), 3) := by decide +kernel
theorem dX9_takes_119 : decode cX9_takes 119 = .ok (.aload_n 0, 1) := by decide +kernel
theorem dX9_takes_120 : decode cX9_takes 120 = .ok (.getfield 7, 3) := by decide +kernel
theorem dX9_takes_123 : decode cX9_takes 123 = .ok (.iconst 0, 1) := by decide +kernel
theorem dX9_takes_124 : decode cX9_takes 124 = .ok (.iload_n 2, 1) := by decide +kernel
theorem dX9_takes_125 : decode cX9_takes 125 = .ok (.iastore, 1) := by decide +kernel
theorem dX9_takes_126 : decode cX9_takes 126 = .ok (.aload_n 0, 1) := by decide +kernel
theorem dX9_takes_127 : decode cX9_takes 127 = .ok (.iload_n 2, 1) := by decide +kernel
theorem dX9_takes_128 : decode cX9_takes 128 = .ok (.invokevirtual 102, 3) := by decide +kernel
theorem dX9_takes_131 : decode cX9_takes 131 = .ok (.ireturn, 1) := by decide +kernel
theorem dX9_pours_0 : decode cX9_pours 0 = .ok (.aload_n 0, 1) := by decide +kernel
theorem dX9_pours_1 : decode cX9_pours 1 = .ok (.iload_n 1, 1) := by decide +kernel
theorem dX9_pours_2 : decode cX9_pours 2 = .ok (.invokevirtual 105, 3) := by decide +kernel
theorem dX9_pours_5 : decode cX9_pours 5 = .ok (.ifCond .eq 11, 3) := by decide +kernel
theorem dX9_pours_8 : decode cX9_pours 8 = .ok (.aload_n 0, 1) := by decide +kernel
theorem dX9_pours_9 : decode cX9_pours 9 = .ok (.iload_n 2, 1) := by decide +kernel
theorem dX9_pours_10 : decode cX9_pours 10 = .ok (.invokevirtual 105, 3) := by decide +kernel
theorem dX9_pours_13 : decode cX9_pours 13 = .ok (.ifCond .ne 15, 3) := by decide +kernel
theorem dX9_pours_16 : decode cX9_pours 16 = .ok (.aload_n 0, 1) := by decide +kernel
theorem dX9_pours_17 : decode cX9_pours 17 = .ok (.iconst 3, 1) := by decide +kernel
theorem dX9_pours_18 : decode cX9_pours 18 = .ok (.aload_n 0, 1) := by decide +kernel
theorem dX9_pours_19 : decode cX9_pours 19 = .ok (.getfield 7, 3) := by decide +kernel
theorem dX9_pours_22 : decode cX9_pours 22 = .ok (.iconst 0, 1) := by decide +kernel
theorem dX9_pours_23 : decode cX9_pours 23 = .ok (.iaload, 1) := by decide +kernel
theorem dX9_pours_24 : decode cX9_pours 24 = .ok (.invokevirtual 92, 3) := by decide +kernel
theorem dX9_pours_27 : decode cX9_pours 27 = .ok (.ireturn, 1) := by decide +kernel
theorem dX9_pours_28 : decode cX9_pours 28 = .ok (.iload_n 1, 1) := by decide +kernel
theorem dX9_pours_29 : decode cX9_pours 29 = .ok (.iload_n 2, 1) := by decide +kernel
theorem dX9_pours_30 : decode cX9_pours 30 = .ok (.if_icmp .ne 11, 3) := by decide +kernel
theorem dX9_pours_33 : decode cX9_pours 33 = .ok (.aload_n 0, 1) := by decide +kernel
theorem dX9_pours_34 : decode cX9_pours 34 = .ok (.bipush 8, 2) := by decide +kernel
theorem dX9_pours_36 : decode cX9_pours 36 = .ok (.iload_n 1, 1) := by decide +kernel
theorem dX9_pours_37 : decode cX9_pours 37 = .ok (.invokevirtual 92, 3) := by decide +kernel
theorem dX9_pours_40 : decode cX9_pours 40 = .ok (.ireturn, 1) := by decide +kernel
theorem dX9_pours_41 : decode cX9_pours 41 = .ok (.iload_n 3, 1) := by decide +kernel
theorem dX9_pours_42 : decode cX9_pours 42 = .ok (.iconst 1, 1) := by decide +kernel
theorem dX9_pours_43 : decode cX9_pours 43 = .ok (.bipush 20, 2) := by decide +kernel
theorem dX9_pours_45 : decode cX9_pours 45 = .ok (.invokestatic 63, 3) := by decide +kernel
theorem dX9_pours_48 : decode cX9_pours 48 = .ok (.ifCond .ne 10, 3) := by decide +kernel
theorem dX9_pours_51 : decode cX9_pours 51 = .ok (.aload_n 0, 1) := by decide +kernel
theorem dX9_pours_52 : decode cX9_pours 52 = .ok (.iconst 1, 1) := by decide +kernel
theorem dX9_pours_53 : decode cX9_pours 53 = .ok (.iconst 0, 1) := by decide +kernel
theorem dX9_pours_54 : decode cX9_pours 54 = .ok (.invokevirtual 92, 3) := by decide +kernel
theorem dX9_pours_57 : decode cX9_pours 57 = .ok (.ireturn, 1) := by decide +kernel
theorem dX9_pours_58 : decode cX9_pours 58 = .ok (.aload_n 0, 1) := by decide +kernel
theorem dX9_pours_59 : decode cX9_pours 59 = .ok (.iload_n 1, 1) := by decide +kernel
theorem dX9_pours_60 : decode cX9_pours 60 = .ok (.iconst 1, 1) := by decide +kernel
theorem dX9_pours_61 : decode cX9_pours 61 = .ok (.invokevirtual 67, 3) := by decide +kernel
theorem dX9_pours_64 : decode cX9_pours 64 = .ok (.iload_n 3, 1) := by decide +kernel
theorem dX9_pours_65 : decode cX9_pours 65 = .ok (.if_icmp .ge 16, 3) := by decide +kernel
theorem dX9_pours_68 : decode cX9_pours 68 = .ok (.aload_n 0, 1) := by decide +kernel
theorem dX9_pours_69 : decode cX9_pours 69 = .ok (.bipush 6, 2) := by decide +kernel
theorem dX9_pours_71 : decode cX9_pours 71 = .ok (.aload_n 0, 1) := by decide +kernel
theorem dX9_pours_72 : decode cX9_pours 72 = .ok (.iload_n 1, 1) := by decide +kernel
theorem dX9_pours_73 : decode cX9_pours 73 = .ok (.iconst 1, 1) := by decide +kernel
theorem dX9_pours_74 : decode cX9_pours 74 = .ok (.invokevirtual 67, 3) := by decide +kernel
theorem dX9_pours_77 : decode cX9_pours 77 = .ok (.invokevirtual 92, 3) := by decide +kernel
theorem dX9_pours_80 : decode cX9_pours 80 = .ok (.ireturn, 1) := by decide +kernel
theorem dX9_pours_81 : decode cX9_pours 81 = .ok (.aload_n 0, 1) := by decide +kernel
theorem dX9_pours_82 : decode cX9_pours 82 = .ok (.iload_n 2, 1) := by decide +kernel
theorem dX9_pours_83 : decode cX9_pours 83 = .ok (.iconst 1, 1) := by decide +kernel
theorem dX9_pours_84 : decode cX9_pours 84 = .ok (.invokevirtual 67, 3) := by decide +kernel
theorem dX9_pours_87 : decode cX9_pours 87 = .ok (.ifCond .ne 7, 3) := by decide +kernel
theorem dX9_pours_90 : decode cX9_pours 90 = .ok (.iconst 1, 1) := by decide +kernel
theorem dX9_pours_91 : decode cX9_pours 91 = .ok (.goto 4, 3) := by decide +kernel
theorem dX9_pours_94 : decode cX9_pours 94 = .ok (.iconst 0, 1) := by decide +kernel
theorem dX9_pours_95 : decode cX9_pours 95 = .ok (.istore 4, 2) := by decide +kernel
theorem dX9_pours_97 : decode cX9_pours 97 = .ok (.iload 4, 2) := by decide +kernel
theorem dX9_pours_99 : decode cX9_pours 99 = .ok (.ifCond .ne 31, 3) := by decide +kernel
theorem dX9_pours_102 : decode cX9_pours 102 = .ok (.aload_n 0, 1) := by decide +kernel
theorem dX9_pours_103 : decode cX9_pours 103 = .ok (.iload_n 2, 1) := by decide +kernel
theorem dX9_pours_104 : decode cX9_pours 104 = .ok (.iconst 3, 1) := by decide +kernel
theorem dX9_pours_105 : decode cX9_pours 105 = .ok (.invokevirtual 67, 3) := by decide +kernel
theorem dX9_pours_108 : decode cX9_pours 108 = .ok (.aload_n 0, 1) := by decide +kernel
theorem dX9_pours_109 : decode cX9_pours 109 = .ok (.iload_n 1, 1) := by decide +kernel
theorem dX9_pours_110 : decode cX9_pours 110 = .ok (.iconst 3, 1) := by decide +kernel
theorem dX9_pours_111 : decode cX9_pours 111 = .ok (.invokevirtual 67, 3) := by decide +kernel
theorem dX9_pours_114 : decode cX9_pours 114 = .ok (.if_icmp .eq 16, 3) := by decide +kernel
theorem dX9_pours_117 : decode cX9_pours 117 = .ok (.aload_n 0, 1) := by decide +kernel
theorem dX9_pours_118 : decode cX9_pours 118 = .ok (.bipush 9, 2) := by decide +kernel
theorem dX9_pours_120 : decode cX9_pours 120 = .ok (.aload_n 0, 1) := by decide +kernel
theorem dX9_pours_121 : decode cX9_pours 121 = .ok (.iload_n 2, 1) := by decide +kernel
theorem dX9_pours_122 : decode cX9_pours 122 = .ok (.iconst 3, 1) := by decide +kernel
theorem dX9_pours_123 : decode cX9_pours 123 = .ok (.invokevirtual 67, 3) := by decide +kernel
theorem dX9_pours_126 : decode cX9_pours 126 = .ok (.invokevirtual 92, 3) := by decide +kernel
theorem dX9_pours_129 : decode cX9_pours 129 = .ok (.ireturn, 1) := by decide +kernel
theorem dX9_pours_130 : decode cX9_pours 130 = .ok (.bipush 20, 2) := by decide +kernel
theorem dX9_pours_132 : decode cX9_pours 132 = .ok (.aload_n 0, 1) := by decide +kernel
theorem dX9_pours_133 : decode cX9_pours 133 = .ok (.iload_n 2, 1) := by decide +kernel
theorem dX9_pours_134 : decode cX9_pours 134 = .ok (.iconst 1, 1) := by decide +kernel
theorem dX9_pours_135 : decode cX9_pours 135 = .ok (.invokevirtual 67, 3) := by decide +kernel
theorem dX9_pours_138 : decode cX9_pours 138 = .ok (.isub, 1) := by decide +kernel
theorem dX9_pours_139 : decode cX9_pours 139 = .ok (.iload_n 3, 1) := by decide +kernel
theorem dX9_pours_140 : decode cX9_pours 140 = .ok (.if_icmp .ge 19, 3) := by decide +kernel
theorem dX9_pours_143 : decode cX9_pours 143 = .ok (.aload_n 0, 1) := by decide +kernel
theorem dX9_pours_144 : decode cX9_pours 144 = .ok (.bipush 7, 2) := by decide +kernel
theorem dX9_pours_146 : decode cX9_pours 146 = .ok (.bipush 20, 2) := by decide +kernel
theorem dX9_pours_148 : decode cX9_pours 148 = .ok (.aload_n 0, 1) := by decide +kernel
theorem dX9_pours_149 : decode cX9_pours 149 = .ok (.iload_n 2, 1) := by decide +kernel
theorem dX9_pours_150 : decode cX9_pours 150 = .ok (.iconst 1, 1) := by decide +kernel
theorem dX9_pours_151 : decode cX9_pours 151 = .ok (.invokevirtual 67, 3) := by decide +kernel
theorem dX9_pours_154 : decode cX9_pours 154 = .ok (.isub, 1) := by decide +kernel
theorem dX9_pours_155 : decode cX9_pours 155 = .ok (.invokevirtual 92, 3) := by decide +kernel
theorem dX9_pours_158 : decode cX9_pours 158 = .ok (.ireturn, 1) := by decide +kernel
theorem dX9_pours_159 : decode cX9_pours 159 = .ok (.aload_n 0, 1) := by decide +kernel
theorem dX9_pours_160 : decode cX9_pours 160 = .ok (.iload_n 1, 1) := by decide +kernel
theorem dX9_pours_161 : decode cX9_pours 161 = .ok (.iload_n 3, 1) := by decide +kernel
theorem dX9_pours_162 : decode cX9_pours 162 = .ok (.invokevirtual 109, 3) := by decide +kernel
theorem dX9_pours_165 : decode cX9_pours 165 = .ok (.istore 5, 2) := by decide +kernel
theorem dX9_pours_167 : decode cX9_pours 167 = .ok (.iload 4, 2) := by decide +kernel
theorem dX9_pours_169 : decode cX9_pours 169 = .ok (.ifCond .eq 32, 3) := by decide +kernel
theorem dX9_pours_172 : decode cX9_pours 172 = .ok (.iconst 3, 1) := by decide +kernel
theorem dX9_pours_173 : decode cX9_pours 173 = .ok (.istore 6, 2) := by decide +kernel
theorem dX9_pours_175 : decode cX9_pours 175 = .ok (.iload 6, 2) := by decide +kernel
theorem dX9_pours_177 : decode cX9_pours 177 = .ok (.iconst 5, 1) := by decide +kernel
theorem dX9_pours_178 : decode cX9_pours 178 = .ok (.if_icmp .gt 23, 3) := by decide +kernel
theorem dX9_pours_181 : decode cX9_pours 181 = .ok (.aload_n 0, 1) := by decide +kernel
theorem dX9_pours_182 : decode cX9_pours 182 = .ok (.iload_n 2, 1) := by decide +kernel
theorem dX9_pours_183 : decode cX9_pours 183 = .ok (.iload 6, 2) := by decide +kernel
theorem dX9_pours_185 : decode cX9_pours 185 = .ok (.aload_n 0, 1) := by decide +kernel
theorem dX9_pours_186 : decode cX9_pours 186 = .ok (.iload_n 1, 1) := by decide +kernel
theorem dX9_pours_187 : decode cX9_pours 187 = .ok (.iload 6, 2) := by decide +kernel
theorem dX9_pours_189 : decode cX9_pours 189 = .ok (.invokevirtual 67, 3) := by decide +kernel
theorem dX9_pours_192 : decode cX9_pours 192 = .ok (.invokevirtual 84, 3) := by decide +kernel
theorem dX9_pours_195 : decode cX9_pours 195 = .ok (.iinc 6 1, 3) := by decide +kernel
theorem dX9_pours_198 : decode cX9_pours 198 = .ok (.goto (-23), 3) := by decide +kernel
theorem dX9_pours_201 : decode cX9_pours 201 = .ok (.aload_n 0, 1) := by decide +kernel
theorem dX9_pours_202 : decode cX9_pours 202 = .ok (.iload_n 2, 1) := by decide +kernel
theorem dX9_pours_203 : decode cX9_pours 203 = .ok (.iconst 1, 1) := by decide +kernel
theorem dX9_pours_204 : decode cX9_pours 204 = .ok (.aload_n 0, 1) := by decide +kernel
theorem dX9_pours_205 : decode cX9_pours 205 = .ok (.iload_n 2, 1) := by decide +kernel
theorem dX9_pours_206 : decode cX9_pours 206 = .ok (.iconst 1, 1) := by decide +kernel
theorem dX9_pours_207 : decode cX9_pours 207 = .ok (.invokevirtual 67, 3) := by decide +kernel
theorem dX9_pours_210 : decode cX9_pours 210 = .ok (.iload_n 3, 1) := by decide +kernel
theorem dX9_pours_211 : decode cX9_pours 211 = .ok (.iadd, 1) := by decide +kernel
theorem dX9_pours_212 : decode cX9_pours 212 = .ok (.invokevirtual 84, 3) := by decide +kernel
theorem dX9_pours_215 : decode cX9_pours 215 = .ok (.aload_n 0, 1) := by decide +kernel
theorem dX9_pours_216 : decode cX9_pours 216 = .ok (.iload_n 2, 1) := by decide +kernel
theorem dX9_pours_217 : decode cX9_pours 217 = .ok (.iconst 2, 1) := by decide +kernel
theorem dX9_pours_218 : decode cX9_pours 218 = .ok (.aload_n 0, 1) := by decide +kernel
theorem dX9_pours_219 : decode cX9_pours 219 = .ok (.iload_n 2, 1) := by decide +kernel
theorem dX9_pours_220 : decode cX9_pours 220 = .ok (.iconst 2, 1) := by decide +kernel
theorem dX9_pours_221 : decode cX9_pours 221 = .ok (.invokevirtual 67, 3) := by decide +kernel
theorem dX9_pours_224 : decode cX9_pours 224 = .ok (.iload 5, 2) := by decide +kernel
theorem dX9_pours_226 : decode cX9_pours 226 = .ok (.iadd, 1) := by decide +kernel
theorem dX9_pours_227 : decode cX9_pours 227 = .ok (.invokevirtual 84, 3) := by decide +kernel
theorem dX9_pours_230 : decode cX9_pours 230 = .ok (.aload_n 0, 1) := by decide +kernel
theorem dX9_pours_231 : decode cX9_pours 231 = .ok (.iload_n 1, 1) := by decide +kernel
theorem dX9_pours_232 : decode cX9_pours 232 = .ok (.iload_n 3, 1) := by decide +kernel
theorem dX9_pours_233 : decode cX9_pours 233 = .ok (.iload 5, 2) := by decide +kernel
theorem dX9_pours_235 : decode cX9_pours 235 = .ok (.invokevirtual 112, 3) := by decide +kernel
theorem dX9_pours_238 : decode cX9_pours 238 = .ok (.aload_n 0, 1) := by decide +kernel
theorem dX9_pours_239 : decode cX9_pours 239 = .ok (.aload_n 0, 1) := by decide +kernel
theorem dX9_pours_240 : decode cX9_pours 240 = .ok (.iload_n 2, 1) := by decide +kernel
theorem dX9_pours_241 : decode cX9_pours 241 = .ok (.iconst 1, 1) := by decide +kernel
theorem dX9_pours_242 : decode cX9_pours 242 = .ok (.invokevirtual 67, 3) := by decide +kernel
theorem dX9_pours_245 : decode cX9_pours 245 = .ok (.invokevirtual 102, 3) := by decide +kernel
theorem dX9_pours_248 : decode cX9_pours 248 = .ok (.ireturn, 1) := by decide +kernel
theorem dX9_adulterates_0 : decode cX9_adulterates 0 = .ok (.aload_n 0, 1) := by decide +kernel
theorem dX9_adulterates_1 : decode cX9_adulterates 1 = .ok (.iload_n 1, 1) := by decide +kernel
theorem dX9_adulterates_2 : decode cX9_adulterates 2 = .ok (.invokevirtual 105, 3) := by decide +kernel
theorem dX9_adulterates_5 : decode cX9_adulterates 5 = .ok (.ifCond .ne 15, 3) := by decide +kernel
theorem dX9_adulterates_8 : decode cX9_adulterates 8 = .ok (.aload_n 0, 1) := by decide +kernel
theorem dX9_adulterates_9 : decode cX9_adulterates 9 = .ok (.iconst 3, 1) := by decide +kernel
theorem dX9_adulterates_10 : decode cX9_adulterates 10 = .ok (.aload_n 0, 1) := by decide +kernel
theorem dX9_adulterates_11 : decode cX9_adulterates 11 = .ok (.getfield 7, 3) := by decide +kernel
theorem dX9_adulterates_14 : decode cX9_adulterates 14 = .ok (.iconst 0, 1) := by decide +kernel
theorem dX9_adulterates_15 : decode cX9_adulterates 15 = .ok (.iaload, 1) := by decide +kernel
theorem dX9_adulterates_16 : decode cX9_adulterates 16 = .ok (.invokevirtual 92, 3) := by decide +kernel
theorem dX9_adulterates_19 : decode cX9_adulterates 19 = .ok (.ireturn, 1) := by decide +kernel
theorem dX9_adulterates_20 : decode cX9_adulterates 20 = .ok (.iload_n 2, 1) := by decide +kernel
theorem dX9_adulterates_21 : decode cX9_adulterates 21 = .ok (.iconst 1, 1) := by decide +kernel
theorem dX9_adulterates_22 : decode cX9_adulterates 22 = .ok (.bipush 9, 2) := by decide +kernel
theorem dX9_adulterates_24 : decode cX9_adulterates 24 = .ok (.invokestatic 63, 3) := by decide +kernel
theorem dX9_adulterates_27 : decode cX9_adulterates 27 = .ok (.ifCond .ne 10, 3) := by decide +kernel
theorem dX9_adulterates_30 : decode cX9_adulterates 30 = .ok (.aload_n 0, 1) := by decide +kernel
theorem dX9_adulterates_31 : decode cX9_adulterates 31 = .ok (.iconst 1, 1) := by decide +kernel
theorem dX9_adulterates_32 : decode cX9_adulterates 32 = .ok (.iconst 0, 1) := by decide +kernel
theorem dX9_adulterates_33 : decode cX9_adulterates 33 = .ok (.invokevirtual 92, 3) := by decide +kernel
theorem dX9_adulterates_36 : decode cX9_adulterates 36 = .ok (.ireturn, 1) := by decide +kernel
theorem dX9_adulterates_37 : decode cX9_adulterates 37 = .ok (.aload_n 0, 1) := by decide +kernel
theorem dX9_adulterates_38 : decode cX9_adulterates 38 = .ok (.iload_n 1, 1) := by decide +kernel
theorem dX9_adulterates_39 : decode cX9_adulterates 39 = .ok (.iconst 1, 1) := by decide +kernel
theorem dX9_adulterates_40 : decode cX9_adulterates 40 = .ok (.invokevirtual 67, 3) := by decide +kernel
theorem dX9_adulterates_43 : decode cX9_adulterates 43 = .ok (.ifCond .ne 11, 3) := by decide +kernel
theorem dX9_adulterates_46 : decode cX9_adulterates 46 = .ok (.aload_n 0, 1) := by decide +kernel
theorem dX9_adulterates_47 : decode cX9_adulterates 47 = .ok (.bipush 6, 2) := by decide +kernel
theorem dX9_adulterates_49 : decode cX9_adulterates 49 = .ok (.iconst 0, 1) := by decide +kernel
theorem dX9_adulterates_50 : decode cX9_adulterates 50 = .ok (.invokevirtual 92, 3) := by decide +kernel
theorem dX9_adulterates_53 : decode cX9_adulterates 53 = .ok (.ireturn, 1) := by decide +kernel
theorem dX9_adulterates_54 : decode cX9_adulterates 54 = .ok (.aload_n 0, 1) := by decide +kernel
theorem dX9_adulterates_55 : decode cX9_adulterates 55 = .ok (.getfield 7, 3) := by decide +kernel
theorem dX9_adulterates_58 : decode cX9_adulterates 58 = .ok (.iconst 2, 1) := by decide +kernel
theorem dX9_adulterates_59 : decode cX9_adulterates 59 = .ok (.iaload, 1) := by decide +kernel
theorem dX9_adulterates_60 : decode cX9_adulterates 60 = .ok (.iload_n 2, 1) := by decide +kernel
theorem dX9_adulterates_61 : decode cX9_adulterates 61 = .ok (.if_icmp .ge 16, 3) := by decide +kernel
theorem dX9_adulterates_64 : decode cX9_adulterates 64 = .ok (.aload_n 0, 1) := by decide +kernel
theorem dX9_adulterates_65 : decode cX9_adulterates 65 = .ok (.bipush 10, 2) := by decide +kernel
theorem dX9_adulterates_67 : decode cX9_adulterates 67 = .ok (.aload_n 0, 1) := by decide +kernel
theorem dX9_adulterates_68 : decode cX9_adulterates 68 = .ok (.getfield 7, 3) := by decide +kernel
theorem dX9_adulterates_71 : decode cX9_adulterates 71 = .ok (.iconst 2, 1) := by decide +kernel
theorem dX9_adulterates_72 : decode cX9_adulterates 72 = .ok (.iaload, 1) := by decide +kernel
theorem dX9_adulterates_73 : decode cX9_adulterates 73 = .ok (.invokevirtual 92, 3) := by decide +kernel
theorem dX9_adulterates_76 : decode cX9_adulterates 76 = .ok (.ireturn, 1) := by decide +kernel
theorem dX9_adulterates_77 : decode cX9_adulterates 77 = .ok (.bipush 20, 2) := by decide +kernel
theorem dX9_adulterates_79 : decode cX9_adulterates 79 = .ok (.aload_n 0, 1) := by decide +kernel
theorem dX9_adulterates_80 : decode cX9_adulterates 80 = .ok (.iload_n 1, 1) := by decide +kernel
theorem dX9_adulterates_81 : decode cX9_adulterates 81 = .ok (.iconst 1, 1) := by decide +kernel
theorem dX9_adulterates_82 : decode cX9_adulterates 82 = .ok (.invokevirtual 67, 3) := by decide +kernel
theorem dX9_adulterates_85 : decode cX9_adulterates 85 = .ok (.isub, 1) := by decide +kernel
theorem dX9_adulterates_86 : decode cX9_adulterates 86 = .ok (.iload_n 2, 1) := by decide +kernel
theorem dX9_adulterates_87 : decode cX9_adulterates 87 = .ok (.if_icmp .ge 19, 3) := by decide +kernel
theorem dX9_adulterates_90 : decode cX9_adulterates 90 = .ok (.aload_n 0, 1) := by decide +kernel
theorem dX9_adulterates_91 : decode cX9_adulterates 91 = .ok (.bipush 7, 2) := by decide +kernel
theorem dX9_adulterates_93 : decode cX9_adulterates 93 = .ok (.bipush 20, 2) := by decide +kernel
theorem dX9_adulterates_95 : decode cX9_adulterates 95 = .ok (.aload_n 0, 1) := by decide +kernel
theorem dX9_adulterates_96 : decode cX9_adulterates 96 = .ok (.iload_n 1, 1) := by decide +kernel
theorem dX9_adulterates_97 : decode cX9_adulterates 97 = .ok (.iconst 1, 1) := by decide +kernel
theorem dX9_adulterates_98 : decode cX9_adulterates 98 = .ok (.invokevirtual 67, 3) := by decide +kernel
theorem dX9_adulterates_101 : decode cX9_adulterates 101 = .ok (.isub, 1) := by decide +kernel
theorem dX9_adulterates_102 : decode cX9_adulterates 102 = .ok (.invokevirtual 92, 3) := by decide +kernel
theorem dX9_adulterates_105 : decode cX9_adulterates 105 = .ok (.ireturn, 1) := by decide +kernel
theorem dX9_adulterates_106 : decode cX9_adulterates 106 = .ok (.aload_n 0, 1) := by decide +kernel
theorem dX9_adulterates_107 : decode cX9_adulterates 107 = .ok (.getfield 7, 3) := by decide +kernel
theorem dX9_adulterates_110 : decode cX9_adulterates 110 = .ok (.iconst 2, 1) := by decide +kernel
theorem dX9_adulterates_111 : decode cX9_adulterates 111 = .ok (.dup2, 1) := by decide +kernel
theorem dX9_adulterates_112 : decode cX9_adulterates 112 = .ok (.iaload, 1) := by decide +kernel
theorem dX9_adulterates_113 : decode cX9_adulterates 113 = .ok (.iload_n 2, 1) := by decide +kernel
theorem dX9_adulterates_114 : decode cX9_adulterates 114 = .ok (.isub, 1) := by decide +kernel
theorem dX9_adulterates_115 : decode cX9_adulterates 115 = .ok (.iastore, 1) := by decide +kernel
theorem dX9_adulterates_116 : decode cX9_adulterates 116 = .ok (.aload_n 0, 1) := by decide +kernel
theorem dX9_adulterates_117 : decode cX9_adulterates 117 = .ok (.getfield 7, 3) := by decide +kernel
theorem dX9_adulterates_120 : decode cX9_adulterates 120 = .ok (.bipush 6, 2) := by decide +kernel
theorem dX9_adulterates_122 : decode cX9_adulterates 122 = .ok (.dup2, 1) := by decide +kernel
theorem dX9_adulterates_123 : decode cX9_adulterates 123 = .ok (.iaload, 1) := by decide +kernel
theorem dX9_adulterates_124 : decode cX9_adulterates 124 = .ok (.iload_n 2, 1) := by decide +kernel
theorem dX9_adulterates_125 : decode cX9_adulterates 125 = .ok (.iadd, 1) := by decide +kernel
theorem dX9_adulterates_126 : decode cX9_adulterates 126 = .ok (.iastore, 1) := by decide +kernel
theorem dX9_adulterates_127 : decode cX9_adulterates 127 = .ok (.aload_n 0, 1) := by decide +kernel
theorem dX9_adulterates_128 : decode cX9_adulterates 128 = .ok (.iload_n 1, 1) := by decide +kernel
theorem dX9_adulterates_129 : decode cX9_adulterates 129 = .ok (.iconst 1, 1) := by decide +kernel
theorem dX9_adulterates_130 : decode cX9_adulterates 130 = .ok (.aload_n 0, 1) := by decide +kernel
theorem dX9_adulterates_131 : decode cX9_adulterates 131 = .ok (.iload_n 1, 1) := by decide +kernel
theorem dX9_adulterates_132 : decode cX9_adulterates 132 = .ok (.iconst 1, 1) := by decide +kernel
theorem dX9_adulterates_133 : decode cX9_adulterates 133 = .ok (.invokevirtual 67, 3) := by decide +kernel
theorem dX9_adulterates_136 : decode cX9_adulterates 136 = .ok (.iload_n 2, 1) := by decide +kernel
theorem dX9_adulterates_137 : decode cX9_adulterates 137 = .ok (.iadd, 1) := by decide +kernel
theorem dX9_adulterates_138 : decode cX9_adulterates 138 = .ok (.invokevirtual 84, 3) := by decide +kernel
theorem dX9_adulterates_141 : decode cX9_adulterates 141 = .ok (.aload_n 0, 1) := by decide +kernel
theorem dX9_adulterates_142 : decode cX9_adulterates 142 = .ok (.iload_n 1, 1) := by decide +kernel
theorem dX9_adulterates_143 : decode cX9_adulterates 143 = .ok (.iconst 2, 1) := by decide +kernel
theorem dX9_adulterates_144 : decode cX9_adulterates 144 = .ok (.aload_n 0, 1) := by decide +kernel
theorem dX9_adulterates_145 : decode cX9_adulterates 145 = .ok (.iload_n 1, 1) := by decide +kernel
theorem dX9_adulterates_146 : decode cX9_adulterates 146 = .ok (.iconst 2, 1) := by decide +kernel
theorem dX9_adulterates_147 : decode cX9_adulterates 147 = .ok (.invokevirtual 67, 3) := by decide +kernel
theorem dX9_adulterates_150 : decode cX9_adulterates 150 = .ok (.iload_n 2, 1) := by decide +kernel
theorem dX9_adulterates_151 : decode cX9_adulterates 151 = .ok (.iadd, 1) := by decide +kernel
theorem dX9_adulterates_152 : decode cX9_adulterates 152 = .ok (.invokevirtual 84, 3) := by decide +kernel
theorem dX9_adulterates_155 : decode cX9_adulterates 155 = .ok (.aload_n 0, 1) := by decide +kernel
theorem dX9_adulterates_156 : decode cX9_adulterates 156 = .ok (.aload_n 0, 1) := by decide +kernel
theorem dX9_adulterates_157 : decode cX9_adulterates 157 = .ok (.iload_n 1, 1) := by decide +kernel
theorem dX9_adulterates_158 : decode cX9_adulterates 158 = .ok (.invokevirtual 77, 3) := by decide +kernel
theorem dX9_adulterates_161 : decode cX9_adulterates 161 = .ok (.invokevirtual 102, 3) := by decide +kernel
theorem dX9_adulterates_164 : decode cX9_adulterates 164 = .ok (.ireturn, 1) := by decide +kernel
theorem dX9_joins_0 : decode cX9_joins 0 = .ok (.iload_n 1, 1) := by decide +kernel
theorem dX9_joins_1 : decode cX9_joins 1 = .ok (.iconst 0, 1) := by decide +kernel
theorem dX9_joins_2 : decode cX9_joins 2 = .ok (.bipush 9, 2) := by decide +kernel
theorem dX9_joins_4 : decode cX9_joins 4 = .ok (.invokestatic 63, 3) := by decide +kernel
theorem dX9_joins_7 : decode cX9_joins 7 = .ok (.ifCond .ne 10, 3) := by decide +kernel
theorem dX9_joins_10 : decode cX9_joins 10 = .ok (.aload_n 0, 1) := by decide +kernel
theorem dX9_joins_11 : decode cX9_joins 11 = .ok (.iconst 1, 1) := by decide +kernel
theorem dX9_joins_12 : decode cX9_joins 12 = .ok (.iconst 0, 1) := by decide +kernel
theorem dX9_joins_13 : decode cX9_joins 13 = .ok (.invokevirtual 92, 3) := by decide +kernel
theorem dX9_joins_16 : decode cX9_joins 16 = .ok (.ireturn, 1) := by decide +kernel
theorem dX9_joins_17 : decode cX9_joins 17 = .ok (.aload_n 0, 1) := by decide +kernel
theorem dX9_joins_18 : decode cX9_joins 18 = .ok (.getfield 7, 3) := by decide +kernel
theorem dX9_joins_21 : decode cX9_joins 21 = .ok (.iconst 1, 1) := by decide +kernel
theorem dX9_joins_22 : decode cX9_joins 22 = .ok (.iaload, 1) := by decide +kernel
theorem dX9_joins_23 : decode cX9_joins 23 = .ok (.istore_n 3, 1) := by decide +kernel
theorem dX9_joins_24 : decode cX9_joins 24 = .ok (.iload_n 3, 1) := by decide +kernel
theorem dX9_joins_25 : decode cX9_joins 25 = .ok (.iconst 4, 1) := by decide +kernel
theorem dX9_joins_26 : decode cX9_joins 26 = .ok (.if_icmp .ne 10, 3) := by decide +kernel
theorem dX9_joins_29 : decode cX9_joins 29 = .ok (.aload_n 0, 1) := by decide +kernel
theorem dX9_joins_30 : decode cX9_joins 30 = .ok (.iconst 2, 1) := by decide +kernel
theorem dX9_joins_31 : decode cX9_joins 31 = .ok (.iconst 4, 1) := by decide +kernel
theorem dX9_joins_32 : decode cX9_joins 32 = .ok (.invokevirtual 92, 3) := by decide +kernel
theorem dX9_joins_35 : decode cX9_joins 35 = .ok (.ireturn, 1) := by decide +kernel
theorem dX9_joins_36 : decode cX9_joins 36 = .ok (.aload_n 0, 1) := by decide +kernel
theorem dX9_joins_37 : decode cX9_joins 37 = .ok (.getfield 7, 3) := by decide +kernel
theorem dX9_joins_40 : decode cX9_joins 40 = .ok (.bipush 63, 2) := by decide +kernel
theorem dX9_joins_42 : decode cX9_joins 42 = .ok (.iconst 2, 1) := by decide +kernel
theorem dX9_joins_43 : decode cX9_joins 43 = .ok (.iload_n 3, 1) := by decide +kernel
theorem dX9_joins_44 : decode cX9_joins 44 = .ok (.imul, 1) := by decide +kernel
theorem dX9_joins_45 : decode cX9_joins 45 = .ok (.iadd, 1) := by decide +kernel
theorem dX9_joins_46 : decode cX9_joins 46 = .ok (.iload_n 1, 1) := by decide +kernel
theorem dX9_joins_47 : decode cX9_joins 47 = .ok (.iastore, 1) := by decide +kernel
theorem dX9_joins_48 : decode cX9_joins 48 = .ok (.aload_n 0, 1) := by decide +kernel
theorem dX9_joins_49 : decode cX9_joins 49 = .ok (.getfield 7, 3) := by decide +kernel
theorem dX9_joins_52 : decode cX9_joins 52 = .ok (.bipush 63, 2) := by decide +kernel
theorem dX9_joins_54 : decode cX9_joins 54 = .ok (.iconst 2, 1) := by decide +kernel
theorem dX9_joins_55 : decode cX9_joins 55 = .ok (.iload_n 3, 1) := by decide +kernel
theorem dX9_joins_56 : decode cX9_joins 56 = .ok (.imul, 1) := by decide +kernel
theorem dX9_joins_57 : decode cX9_joins 57 = .ok (.iadd, 1) := by decide +kernel
theorem dX9_joins_58 : decode cX9_joins 58 = .ok (.iconst 1, 1) := by decide +kernel
theorem dX9_joins_59 : decode cX9_joins 59 = .ok (.iadd, 1) := by decide +kernel
theorem dX9_joins_60 : decode cX9_joins 60 = .ok (.iload_n 2, 1) := by decide +kernel
theorem dX9_joins_61 : decode cX9_joins 61 = .ok (.iastore, 1) := by decide +kernel
theorem dX9_joins_62 : decode cX9_joins 62 = .ok (.aload_n 0, 1) := by decide +kernel
theorem dX9_joins_63 : decode cX9_joins 63 = .ok (.getfield 7, 3) := by decide +kernel
theorem dX9_joins_66 : decode cX9_joins 66 = .ok (.iconst 1, 1) := by decide +kernel
theorem dX9_joins_67 : decode cX9_joins 67 = .ok (.iload_n 3, 1) := by decide +kernel
theorem dX9_joins_68 : decode cX9_joins 68 = .ok (.iconst 1, 1) := by decide +kernel
theorem dX9_joins_69 : decode cX9_joins 69 = .ok (.iadd, 1) := by decide +kernel
theorem dX9_joins_70 : decode cX9_joins 70 = .ok (.iastore, 1) := by decide +kernel
theorem dX9_joins_71 : decode cX9_joins 71 = .ok (.aload_n 0, 1) := by decide +kernel
theorem dX9_joins_72 : decode cX9_joins 72 = .ok (.iload_n 3, 1) := by decide +kernel
theorem dX9_joins_73 : decode cX9_joins 73 = .ok (.invokevirtual 102, 3) := by decide +kernel
theorem dX9_joins_76 : decode cX9_joins 76 = .ok (.ireturn, 1) := by decide +kernel
theorem dX9_leaves_0 : decode cX9_leaves 0 = .ok (.aload_n 0, 1) := by decide +kernel
theorem dX9_leaves_1 : decode cX9_leaves 1 = .ok (.iload_n 1, 1) := by decide +kernel
theorem dX9_leaves_2 : decode cX9_leaves 2 = .ok (.invokevirtual 115, 3) := by decide +kernel
theorem dX9_leaves_5 : decode cX9_leaves 5 = .ok (.ifCond .ne 15, 3) := by decide +kernel
theorem dX9_leaves_8 : decode cX9_leaves 8 = .ok (.aload_n 0, 1) := by decide +kernel
theorem dX9_leaves_9 : decode cX9_leaves 9 = .ok (.iconst 4, 1) := by decide +kernel
theorem dX9_leaves_10 : decode cX9_leaves 10 = .ok (.aload_n 0, 1) := by decide +kernel
theorem dX9_leaves_11 : decode cX9_leaves 11 = .ok (.getfield 7, 3) := by decide +kernel
theorem dX9_leaves_14 : decode cX9_leaves 14 = .ok (.iconst 1, 1) := by decide +kernel
theorem dX9_leaves_15 : decode cX9_leaves 15 = .ok (.iaload, 1) := by decide +kernel
theorem dX9_leaves_16 : decode cX9_leaves 16 = .ok (.invokevirtual 92, 3) := by decide +kernel
theorem dX9_leaves_19 : decode cX9_leaves 19 = .ok (.ireturn, 1) := by decide +kernel
theorem dX9_leaves_20 : decode cX9_leaves 20 = .ok (.aload_n 0, 1) := by decide +kernel
theorem dX9_leaves_21 : decode cX9_leaves 21 = .ok (.getfield 7, 3) := by decide +kernel
theorem dX9_leaves_24 : decode cX9_leaves 24 = .ok (.iconst 1, 1) := by decide +kernel
theorem dX9_leaves_25 : decode cX9_leaves 25 = .ok (.iaload, 1) := by decide +kernel
theorem dX9_leaves_26 : decode cX9_leaves 26 = .ok (.iconst 1, 1) := by decide +kernel
theorem dX9_leaves_27 : decode cX9_leaves 27 = .ok (.isub, 1) := by decide +kernel
theorem dX9_leaves_28 : decode cX9_leaves 28 = .ok (.istore_n 2, 1) := by decide +kernel
theorem dX9_leaves_29 : decode cX9_leaves 29 = .ok (.iconst 2, 1) := by decide +kernel
theorem dX9_leaves_30 : decode cX9_leaves 30 = .ok (.iload_n 1, 1) := by decide +kernel
theorem dX9_leaves_31 : decode cX9_leaves 31 = .ok (.imul, 1) := by decide +kernel
theorem dX9_leaves_32 : decode cX9_leaves 32 = .ok (.istore_n 3, 1) := by decide +kernel
theorem dX9_leaves_33 : decode cX9_leaves 33 = .ok (.iload_n 3, 1) := by decide +kernel
theorem dX9_leaves_34 : decode cX9_leaves 34 = .ok (.iconst 2, 1) := by decide +kernel
theorem dX9_leaves_35 : decode cX9_leaves 35 = .ok (.iload_n 2, 1) := by decide +kernel
theorem dX9_leaves_36 : decode cX9_leaves 36 = .ok (.imul, 1) := by decide +kernel
theorem dX9_leaves_37 : decode cX9_leaves 37 = .ok (.if_icmp .ge 29, 3) := by decide +kernel
theorem dX9_leaves_40 : decode cX9_leaves 40 = .ok (.aload_n 0, 1) := by decide +kernel
theorem dX9_leaves_41 : decode cX9_leaves 41 = .ok (.getfield 7, 3) := by decide +kernel
theorem dX9_leaves_44 : decode cX9_leaves 44 = .ok (.bipush 63, 2) := by decide +kernel
theorem dX9_leaves_46 : decode cX9_leaves 46 = .ok (.iload_n 3, 1) := by decide +kernel
theorem dX9_leaves_47 : decode cX9_leaves 47 = .ok (.iadd, 1) := by decide +kernel
theorem dX9_leaves_48 : decode cX9_leaves 48 = .ok (.aload_n 0, 1) := by decide +kernel
theorem dX9_leaves_49 : decode cX9_leaves 49 = .ok (.getfield 7, 3) := by decide +kernel
theorem dX9_leaves_52 : decode cX9_leaves 52 = .ok (.bipush 63, 2) := by decide +kernel
theorem dX9_leaves_54 : decode cX9_leaves 54 = .ok (.iload_n 3, 1) := by decide +kernel
theorem dX9_leaves_55 : decode cX9_leaves 55 = .ok (.iadd, 1) := by decide +kernel
theorem dX9_leaves_56 : decode cX9_leaves 56 = .ok (.iconst 2, 1) := by decide +kernel
theorem dX9_leaves_57 : decode cX9_leaves 57 = .ok (.iadd, 1) := by decide +kernel
theorem dX9_leaves_58 : decode cX9_leaves 58 = .ok (.iaload, 1) := by decide +kernel
theorem dX9_leaves_59 : decode cX9_leaves 59 = .ok (.iastore, 1) := by decide +kernel
theorem dX9_leaves_60 : decode cX9_leaves 60 = .ok (.iinc 3 1, 3) := by decide +kernel
theorem dX9_leaves_63 : decode cX9_leaves 63 = .ok (.goto (-30), 3) := by decide +kernel
theorem dX9_leaves_66 : decode cX9_leaves 66 = .ok (.aload_n 0, 1) := by decide +kernel
theorem dX9_leaves_67 : decode cX9_leaves 67 = .ok (.getfield 7, 3) := by decide +kernel
theorem dX9_leaves_70 : decode cX9_leaves 70 = .ok (.bipush 63, 2) := by decide +kernel
theorem dX9_leaves_72 : decode cX9_leaves 72 = .ok (.iconst 2, 1) := by decide +kernel
theorem dX9_leaves_73 : decode cX9_leaves 73 = .ok (.iload_n 2, 1) := by decide +kernel
theorem dX9_leaves_74 : decode cX9_leaves 74 = .ok (.imul, 1) := by decide +kernel
theorem dX9_leaves_75 : decode cX9_leaves 75 = .ok (.iadd, 1) := by decide +kernel
theorem dX9_leaves_76 : decode cX9_leaves 76 = .ok (.iconst 0, 1) := by decide +kernel
theorem dX9_leaves_77 : decode cX9_leaves 77 = .ok (.iastore, 1) := by decide +kernel
theorem dX9_leaves_78 : decode cX9_leaves 78 = .ok (.aload_n 0, 1) := by decide +kernel
theorem dX9_leaves_79 : decode cX9_leaves 79 = .ok (.getfield 7, 3) := by decide +kernel
theorem dX9_leaves_82 : decode cX9_leaves 82 = .ok (.bipush 63, 2) := by decide +kernel
theorem dX9_leaves_84 : decode cX9_leaves 84 = .ok (.iconst 2, 1) := by decide +kernel
theorem dX9_leaves_85 : decode cX9_leaves 85 = .ok (.iload_n 2, 1) := by decide +kernel
theorem dX9_leaves_86 : decode cX9_leaves 86 = .ok (.imul, 1) := by decide +kernel
theorem dX9_leaves_87 : decode cX9_leaves 87 = .ok (.iadd, 1) := by decide +kernel
theorem dX9_leaves_88 : decode cX9_leaves 88 = .ok (.iconst 1, 1) := by decide +kernel
theorem dX9_leaves_89 : decode cX9_leaves 89 = .ok (.iadd, 1) := by decide +kernel
theorem dX9_leaves_90 : decode cX9_leaves 90 = .ok (.iconst 0, 1) := by decide +kernel
theorem dX9_leaves_91 : decode cX9_leaves 91 = .ok (.iastore, 1) := by decide +kernel
theorem dX9_leaves_92 : decode cX9_leaves 92 = .ok (.aload_n 0, 1) := by decide +kernel
theorem dX9_leaves_93 : decode cX9_leaves 93 = .ok (.getfield 7, 3) := by decide +kernel
theorem dX9_leaves_96 : decode cX9_leaves 96 = .ok (.iconst 1, 1) := by decide +kernel
theorem dX9_leaves_97 : decode cX9_leaves 97 = .ok (.iload_n 2, 1) := by decide +kernel
theorem dX9_leaves_98 : decode cX9_leaves 98 = .ok (.iastore, 1) := by decide +kernel
theorem dX9_leaves_99 : decode cX9_leaves 99 = .ok (.aload_n 0, 1) := by decide +kernel
theorem dX9_leaves_100 : decode cX9_leaves 100 = .ok (.iload_n 2, 1) := by decide +kernel
theorem dX9_leaves_101 : decode cX9_leaves 101 = .ok (.invokevirtual 102, 3) := by decide +kernel
theorem dX9_leaves_104 : decode cX9_leaves 104 = .ok (.ireturn, 1) := by decide +kernel
theorem dX9_drinks_0 : decode cX9_drinks 0 = .ok (.aload_n 0, 1) := by decide +kernel
theorem dX9_drinks_1 : decode cX9_drinks 1 = .ok (.iload_n 1, 1) := by decide +kernel
theorem dX9_drinks_2 : decode cX9_drinks 2 = .ok (.invokevirtual 105, 3) := by decide +kernel
theorem dX9_drinks_5 : decode cX9_drinks 5 = .ok (.ifCond .ne 15, 3) := by decide +kernel
theorem dX9_drinks_8 : decode cX9_drinks 8 = .ok (.aload_n 0, 1) := by decide +kernel
theorem dX9_drinks_9 : decode cX9_drinks 9 = .ok (.iconst 3, 1) := by decide +kernel
theorem dX9_drinks_10 : decode cX9_drinks 10 = .ok (.aload_n 0, 1) := by decide +kernel
theorem dX9_drinks_11 : decode cX9_drinks 11 = .ok (.getfield 7, 3) := by decide +kernel
theorem dX9_drinks_14 : decode cX9_drinks 14 = .ok (.iconst 0, 1) := by decide +kernel
theorem dX9_drinks_15 : decode cX9_drinks 15 = .ok (.iaload, 1) := by decide +kernel
theorem dX9_drinks_16 : decode cX9_drinks 16 = .ok (.invokevirtual 92, 3) := by decide +kernel
theorem dX9_drinks_19 : decode cX9_drinks 19 = .ok (.ireturn, 1) := by decide +kernel
theorem dX9_drinks_20 : decode cX9_drinks 20 = .ok (.aload_n 0, 1) := by decide +kernel
theorem dX9_drinks_21 : decode cX9_drinks 21 = .ok (.getfield 7, 3) := by decide +kernel
theorem dX9_drinks_24 : decode cX9_drinks 24 = .ok (.iconst 1, 1) := by decide +kernel
theorem dX9_drinks_25 : decode cX9_drinks 25 = .ok (.iaload, 1) := by decide +kernel
theorem dX9_drinks_26 : decode cX9_drinks 26 = .ok (.istore_n 2, 1) := by decide +kernel
theorem dX9_drinks_27 : decode cX9_drinks 27 = .ok (.iload_n 2, 1) := by decide +kernel
theorem dX9_drinks_28 : decode cX9_drinks 28 = .ok (.ifCond .ne 11, 3) := by decide +kernel
theorem dX9_drinks_31 : decode cX9_drinks 31 = .ok (.aload_n 0, 1) := by decide +kernel
theorem dX9_drinks_32 : decode cX9_drinks 32 = .ok (.bipush 11, 2) := by decide +kernel
theorem dX9_drinks_34 : decode cX9_drinks 34 = .ok (.iconst 0, 1) := by decide +kernel
theorem dX9_drinks_35 : decode cX9_drinks 35 = .ok (.invokevirtual 92, 3) := by decide +kernel
theorem dX9_drinks_38 : decode cX9_drinks 38 = .ok (.ireturn, 1) := by decide +kernel
theorem dX9_drinks_39 : decode cX9_drinks 39 = .ok (.aload_n 0, 1) := by decide +kernel
theorem dX9_drinks_40 : decode cX9_drinks 40 = .ok (.iload_n 1, 1) := by decide +kernel
theorem dX9_drinks_41 : decode cX9_drinks 41 = .ok (.iconst 1, 1) := by decide +kernel
theorem dX9_drinks_42 : decode cX9_drinks 42 = .ok (.invokevirtual 67, 3) := by decide +kernel
theorem dX9_drinks_45 : decode cX9_drinks 45 = .ok (.iload_n 2, 1) := by decide +kernel
theorem dX9_drinks_46 : decode cX9_drinks 46 = .ok (.if_icmp .ge 16, 3) := by decide +kernel
theorem dX9_drinks_49 : decode cX9_drinks 49 = .ok (.aload_n 0, 1) := by decide +kernel
theorem dX9_drinks_50 : decode cX9_drinks 50 = .ok (.bipush 6, 2) := by decide +kernel
theorem dX9_drinks_52 : decode cX9_drinks 52 = .ok (.aload_n 0, 1) := by decide +kernel
theorem dX9_drinks_53 : decode cX9_drinks 53 = .ok (.iload_n 1, 1) := by decide +kernel
theorem dX9_drinks_54 : decode cX9_drinks 54 = .ok (.iconst 1, 1) := by decide +kernel
theorem dX9_drinks_55 : decode cX9_drinks 55 = .ok (.invokevirtual 67, 3) := by decide +kernel
theorem dX9_drinks_58 : decode cX9_drinks 58 = .ok (.invokevirtual 92, 3) := by decide +kernel
theorem dX9_drinks_61 : decode cX9_drinks 61 = .ok (.ireturn, 1) := by decide +kernel
theorem dX9_drinks_62 : decode cX9_drinks 62 = .ok (.aload_n 0, 1) := by decide +kernel
theorem dX9_drinks_63 : decode cX9_drinks 63 = .ok (.aload_n 0, 1) := by decide +kernel
theorem dX9_drinks_64 : decode cX9_drinks 64 = .ok (.iload_n 1, 1) := by decide +kernel
theorem dX9_drinks_65 : decode cX9_drinks 65 = .ok (.invokevirtual 77, 3) := by decide +kernel
theorem dX9_drinks_68 : decode cX9_drinks 68 = .ok (.invokevirtual 118, 3) := by decide +kernel
theorem dX9_drinks_71 : decode cX9_drinks 71 = .ok (.ifCond .eq 7, 3) := by decide +kernel
theorem dX9_drinks_74 : decode cX9_drinks 74 = .ok (.iconst 1, 1) := by decide +kernel
theorem dX9_drinks_75 : decode cX9_drinks 75 = .ok (.goto 4, 3) := by decide +kernel
theorem dX9_drinks_78 : decode cX9_drinks 78 = .ok (.iconst 0, 1) := by decide +kernel
theorem dX9_drinks_79 : decode cX9_drinks 79 = .ok (.istore_n 3, 1) := by decide +kernel
theorem dX9_drinks_80 : decode cX9_drinks 80 = .ok (.aload_n 0, 1) := by decide +kernel
theorem dX9_drinks_81 : decode cX9_drinks 81 = .ok (.iload_n 1, 1) := by decide +kernel
theorem dX9_drinks_82 : decode cX9_drinks 82 = .ok (.iconst 0, 1) := by decide +kernel
theorem dX9_drinks_83 : decode cX9_drinks 83 = .ok (.invokevirtual 121, 3) := by decide +kernel
theorem dX9_drinks_86 : decode cX9_drinks 86 = .ok (.istore 4, 2) := by decide +kernel
theorem dX9_drinks_88 : decode cX9_drinks 88 = .ok (.aload_n 0, 1) := by decide +kernel
theorem dX9_drinks_89 : decode cX9_drinks 89 = .ok (.getfield 7, 3) := by decide +kernel
theorem dX9_drinks_92 : decode cX9_drinks 92 = .ok (.bipush 8, 2) := by decide +kernel
theorem dX9_drinks_94 : decode cX9_drinks 94 = .ok (.dup2, 1) := by decide +kernel
theorem dX9_drinks_95 : decode cX9_drinks 95 = .ok (.iaload, 1) := by decide +kernel
theorem dX9_drinks_96 : decode cX9_drinks 96 = .ok (.iload_n 2, 1) := by decide +kernel
theorem dX9_drinks_97 : decode cX9_drinks 97 = .ok (.iadd, 1) := by decide +kernel
theorem dX9_drinks_98 : decode cX9_drinks 98 = .ok (.iastore, 1) := by decide +kernel
theorem dX9_drinks_99 : decode cX9_drinks 99 = .ok (.iload_n 3, 1) := by decide +kernel
theorem dX9_drinks_100 : decode cX9_drinks 100 = .ok (.ifCond .eq 43, 3) := by decide +kernel
theorem dX9_drinks_103 : decode cX9_drinks 103 = .ok (.aload_n 0, 1) := by decide +kernel
theorem dX9_drinks_104 : decode cX9_drinks 104 = .ok (.getfield 7, 3) := by decide +kernel
theorem dX9_drinks_107 : decode cX9_drinks 107 = .ok (.bipush 9, 2) := by decide +kernel
theorem dX9_drinks_109 : decode cX9_drinks 109 = .ok (.dup2, 1) := by decide +kernel
theorem dX9_drinks_110 : decode cX9_drinks 110 = .ok (.iaload, 1) := by decide +kernel
theorem dX9_drinks_111 : decode cX9_drinks 111 = .ok (.aload_n 0, 1) := by decide +kernel
theorem dX9_drinks_112 : decode cX9_drinks 112 = .ok (.iload_n 1, 1) := by decide +kernel
theorem dX9_drinks_113 : decode cX9_drinks 113 = .ok (.iconst 1, 1) := by decide +kernel
theorem dX9_drinks_114 : decode cX9_drinks 114 = .ok (.invokevirtual 67, 3) := by decide +kernel
theorem dX9_drinks_117 : decode cX9_drinks 117 = .ok (.iload_n 2, 1) := by decide +kernel
theorem dX9_drinks_118 : decode cX9_drinks 118 = .ok (.isub, 1) := by decide +kernel
theorem dX9_drinks_119 : decode cX9_drinks 119 = .ok (.iadd, 1) := by decide +kernel
theorem dX9_drinks_120 : decode cX9_drinks 120 = .ok (.iastore, 1) := by decide +kernel
theorem dX9_drinks_121 : decode cX9_drinks 121 = .ok (.aload_n 0, 1) := by decide +kernel
theorem dX9_drinks_122 : decode cX9_drinks 122 = .ok (.getfield 7, 3) := by decide +kernel
theorem dX9_drinks_125 : decode cX9_drinks 125 = .ok (.bipush 10, 2) := by decide +kernel
theorem dX9_drinks_127 : decode cX9_drinks 127 = .ok (.dup2, 1) := by decide +kernel
theorem dX9_drinks_128 : decode cX9_drinks 128 = .ok (.iaload, 1) := by decide +kernel
theorem dX9_drinks_129 : decode cX9_drinks 129 = .ok (.iconst 1, 1) := by decide +kernel
theorem dX9_drinks_130 : decode cX9_drinks 130 = .ok (.iadd, 1) := by decide +kernel
theorem dX9_drinks_131 : decode cX9_drinks 131 = .ok (.iastore, 1) := by decide +kernel
theorem dX9_drinks_132 : decode cX9_drinks 132 = .ok (.aload_n 0, 1) := by decide +kernel
theorem dX9_drinks_133 : decode cX9_drinks 133 = .ok (.iload_n 1, 1) := by decide +kernel
theorem dX9_drinks_134 : decode cX9_drinks 134 = .ok (.invokevirtual 88, 3) := by decide +kernel
theorem dX9_drinks_137 : decode cX9_drinks 137 = .ok (.aload_n 0, 1) := by decide +kernel
theorem dX9_drinks_138 : decode cX9_drinks 138 = .ok (.iconst 0, 1) := by decide +kernel
theorem dX9_drinks_139 : decode cX9_drinks 139 = .ok (.invokevirtual 102, 3) := by decide +kernel
theorem dX9_drinks_142 : decode cX9_drinks 142 = .ok (.ireturn, 1) := by decide +kernel
theorem dX9_drinks_143 : decode cX9_drinks 143 = .ok (.aload_n 0, 1) := by decide +kernel
theorem dX9_drinks_144 : decode cX9_drinks 144 = .ok (.iload_n 1, 1) := by decide +kernel
theorem dX9_drinks_145 : decode cX9_drinks 145 = .ok (.iload_n 2, 1) := by decide +kernel
theorem dX9_drinks_146 : decode cX9_drinks 146 = .ok (.aload_n 0, 1) := by decide +kernel
theorem dX9_drinks_147 : decode cX9_drinks 147 = .ok (.iload_n 1, 1) := by decide +kernel
theorem dX9_drinks_148 : decode cX9_drinks 148 = .ok (.iload_n 2, 1) := by decide +kernel
theorem dX9_drinks_149 : decode cX9_drinks 149 = .ok (.invokevirtual 109, 3) := by decide +kernel
theorem dX9_drinks_152 : decode cX9_drinks 152 = .ok (.invokevirtual 112, 3) := by decide +kernel
theorem dX9_drinks_155 : decode cX9_drinks 155 = .ok (.aload_n 0, 1) := by decide +kernel
theorem dX9_drinks_156 : decode cX9_drinks 156 = .ok (.iload 4, 2) := by decide +kernel
theorem dX9_drinks_158 : decode cX9_drinks 158 = .ok (.iload_n 2, 1) := by decide +kernel
theorem dX9_drinks_159 : decode cX9_drinks 159 = .ok (.imul, 1) := by decide +kernel
theorem dX9_drinks_160 : decode cX9_drinks 160 = .ok (.invokevirtual 102, 3) := by decide +kernel
theorem dX9_drinks_163 : decode cX9_drinks 163 = .ok (.ireturn, 1) := by decide +kernel
theorem dX9_clears_0 : decode cX9_clears 0 = .ok (.iload_n 1, 1) := by decide +kernel
theorem dX9_clears_1 : decode cX9_clears 1 = .ok (.iconst 0, 1) := by decide +kernel
theorem dX9_clears_2 : decode cX9_clears 2 = .ok (.iconst 3, 1) := by decide +kernel
theorem dX9_clears_3 : decode cX9_clears 3 = .ok (.invokestatic 63, 3) := by decide +kernel
theorem dX9_clears_6 : decode cX9_clears 6 = .ok (.ifCond .ne 10, 3) := by decide +kernel
theorem dX9_clears_9 : decode cX9_clears 9 = .ok (.aload_n 0, 1) := by decide +kernel
theorem dX9_clears_10 : decode cX9_clears 10 = .ok (.iconst 1, 1) := by decide +kernel
theorem dX9_clears_11 : decode cX9_clears 11 = .ok (.iconst 0, 1) := by decide +kernel
theorem dX9_clears_12 : decode cX9_clears 12 = .ok (.invokevirtual 92, 3) := by decide +kernel
theorem dX9_clears_15 : decode cX9_clears 15 = .ok (.ireturn, 1) := by decide +kernel
theorem dX9_clears_16 : decode cX9_clears 16 = .ok (.aload_n 0, 1) := by decide +kernel
theorem dX9_clears_17 : decode cX9_clears 17 = .ok (.getfield 7, 3) := by decide +kernel
theorem dX9_clears_20 : decode cX9_clears 20 = .ok (.bipush 11, 2) := by decide +kernel
theorem dX9_clears_22 : decode cX9_clears 22 = .ok (.iload_n 1, 1) := by decide +kernel
theorem dX9_clears_23 : decode cX9_clears 23 = .ok (.iadd, 1) := by decide +kernel
theorem dX9_clears_24 : decode cX9_clears 24 = .ok (.iaload, 1) := by decide +kernel
theorem dX9_clears_25 : decode cX9_clears 25 = .ok (.istore_n 2, 1) := by decide +kernel
theorem dX9_clears_26 : decode cX9_clears 26 = .ok (.iload_n 2, 1) := by decide +kernel
theorem dX9_clears_27 : decode cX9_clears 27 = .ok (.ifCond .ne 11, 3) := by decide +kernel
theorem dX9_clears_30 : decode cX9_clears 30 = .ok (.aload_n 0, 1) := by decide +kernel
theorem dX9_clears_31 : decode cX9_clears 31 = .ok (.bipush 12, 2) := by decide +kernel
theorem dX9_clears_33 : decode cX9_clears 33 = .ok (.iload_n 1, 1) := by decide +kernel
theorem dX9_clears_34 : decode cX9_clears 34 = .ok (.invokevirtual 92, 3) := by decide +kernel
theorem dX9_clears_37 : decode cX9_clears 37 = .ok (.ireturn, 1) := by decide +kernel
theorem dX9_clears_38 : decode cX9_clears 38 = .ok (.aload_n 0, 1) := by decide +kernel
theorem dX9_clears_39 : decode cX9_clears 39 = .ok (.getfield 7, 3) := by decide +kernel
theorem dX9_clears_42 : decode cX9_clears 42 = .ok (.bipush 11, 2) := by decide +kernel
theorem dX9_clears_44 : decode cX9_clears 44 = .ok (.iload_n 1, 1) := by decide +kernel
theorem dX9_clears_45 : decode cX9_clears 45 = .ok (.iadd, 1) := by decide +kernel
theorem dX9_clears_46 : decode cX9_clears 46 = .ok (.iconst 0, 1) := by decide +kernel
theorem dX9_clears_47 : decode cX9_clears 47 = .ok (.iastore, 1) := by decide +kernel
theorem dX9_clears_48 : decode cX9_clears 48 = .ok (.aload_n 0, 1) := by decide +kernel
theorem dX9_clears_49 : decode cX9_clears 49 = .ok (.iload_n 2, 1) := by decide +kernel
theorem dX9_clears_50 : decode cX9_clears 50 = .ok (.invokevirtual 102, 3) := by decide +kernel
theorem dX9_clears_53 : decode cX9_clears 53 = .ok (.ireturn, 1) := by decide +kernel
theorem dX9_passes_0 : decode cX9_passes 0 = .ok (.aload_n 0, 1) := by decide +kernel
theorem dX9_passes_1 : decode cX9_passes 1 = .ok (.getfield 7, 3) := by decide +kernel
theorem dX9_passes_4 : decode cX9_passes 4 = .ok (.iconst 2, 1) := by decide +kernel
theorem dX9_passes_5 : decode cX9_passes 5 = .ok (.iaload, 1) := by decide +kernel
theorem dX9_passes_6 : decode cX9_passes 6 = .ok (.istore_n 1, 1) := by decide +kernel
theorem dX9_passes_7 : decode cX9_passes 7 = .ok (.aload_n 0, 1) := by decide +kernel
theorem dX9_passes_8 : decode cX9_passes 8 = .ok (.getfield 7, 3) := by decide +kernel
theorem dX9_passes_11 : decode cX9_passes 11 = .ok (.iconst 3, 1) := by decide +kernel
theorem dX9_passes_12 : decode cX9_passes 12 = .ok (.dup2, 1) := by decide +kernel
theorem dX9_passes_13 : decode cX9_passes 13 = .ok (.iaload, 1) := by decide +kernel
theorem dX9_passes_14 : decode cX9_passes 14 = .ok (.iconst 1, 1) := by decide +kernel
theorem dX9_passes_15 : decode cX9_passes 15 = .ok (.iadd, 1) := by decide +kernel
theorem dX9_passes_16 : decode cX9_passes 16 = .ok (.iastore, 1) := by decide +kernel
theorem dX9_passes_17 : decode cX9_passes 17 = .ok (.aload_n 0, 1) := by decide +kernel
theorem dX9_passes_18 : decode cX9_passes 18 = .ok (.getfield 7, 3) := by decide +kernel
theorem dX9_passes_21 : decode cX9_passes 21 = .ok (.iconst 2, 1) := by decide +kernel
theorem dX9_passes_22 : decode cX9_passes 22 = .ok (.iconst 0, 1) := by decide +kernel
theorem dX9_passes_23 : decode cX9_passes 23 = .ok (.iastore, 1) := by decide +kernel
theorem dX9_passes_24 : decode cX9_passes 24 = .ok (.iconst 0, 1) := by decide +kernel
theorem dX9_passes_25 : decode cX9_passes 25 = .ok (.istore_n 2, 1) := by decide +kernel
theorem dX9_passes_26 : decode cX9_passes 26 = .ok (.iload_n 2, 1) := by decide +kernel
theorem dX9_passes_27 : decode cX9_passes 27 = .ok (.iconst 4, 1) := by decide +kernel
theorem dX9_passes_28 : decode cX9_passes 28 = .ok (.if_icmp .ge 48, 3) := by decide +kernel
theorem dX9_passes_31 : decode cX9_passes 31 = .ok (.aload_n 0, 1) := by decide +kernel
theorem dX9_passes_32 : decode cX9_passes 32 = .ok (.getfield 7, 3) := by decide +kernel
theorem dX9_passes_35 : decode cX9_passes 35 = .ok (.bipush 11, 2) := by decide +kernel
theorem dX9_passes_37 : decode cX9_passes 37 = .ok (.iload_n 2, 1) := by decide +kernel
theorem dX9_passes_38 : decode cX9_passes 38 = .ok (.iadd, 1) := by decide +kernel
theorem dX9_passes_39 : decode cX9_passes 39 = .ok (.aload_n 0, 1) := by decide +kernel
theorem dX9_passes_40 : decode cX9_passes 40 = .ok (.getfield 7, 3) := by decide +kernel
theorem dX9_passes_43 : decode cX9_passes 43 = .ok (.bipush 11, 2) := by decide +kernel
theorem dX9_passes_45 : decode cX9_passes 45 = .ok (.iload_n 2, 1) := by decide +kernel
theorem dX9_passes_46 : decode cX9_passes 46 = .ok (.iadd, 1) := by decide +kernel
theorem dX9_passes_47 : decode cX9_passes 47 = .ok (.iaload, 1) := by decide +kernel
theorem dX9_passes_48 : decode cX9_passes 48 = .ok (.bipush 9, 2) := by decide +kernel
theorem dX9_passes_50 : decode cX9_passes 50 = .ok (.if_icmp .ne 8, 3) := by decide +kernel
theorem dX9_passes_53 : decode cX9_passes 53 = .ok (.bipush 9, 2) := by decide +kernel
theorem dX9_passes_55 : decode cX9_passes 55 = .ok (.goto 14, 3) := by decide +kernel
theorem dX9_passes_58 : decode cX9_passes 58 = .ok (.aload_n 0, 1) := by decide +kernel
theorem dX9_passes_59 : decode cX9_passes 59 = .ok (.getfield 7, 3) := by decide +kernel
theorem dX9_passes_62 : decode cX9_passes 62 = .ok (.bipush 11, 2) := by decide +kernel
theorem dX9_passes_64 : decode cX9_passes 64 = .ok (.iload_n 2, 1) := by decide +kernel
theorem dX9_passes_65 : decode cX9_passes 65 = .ok (.iadd, 1) := by decide +kernel
theorem dX9_passes_66 : decode cX9_passes 66 = .ok (.iaload, 1) := by decide +kernel
theorem dX9_passes_67 : decode cX9_passes 67 = .ok (.iconst 1, 1) := by decide +kernel
theorem dX9_passes_68 : decode cX9_passes 68 = .ok (.iadd, 1) := by decide +kernel
theorem dX9_passes_69 : decode cX9_passes 69 = .ok (.iastore, 1) := by decide +kernel
theorem dX9_passes_70 : decode cX9_passes 70 = .ok (.iinc 2 1, 3) := by decide +kernel
theorem dX9_passes_73 : decode cX9_passes 73 = .ok (.goto (-47), 3) := by decide +kernel
theorem dX9_passes_76 : decode cX9_passes 76 = .ok (.aload_n 0, 1) := by decide +kernel
theorem dX9_passes_77 : decode cX9_passes 77 = .ok (.iload_n 1, 1) := by decide +kernel
theorem dX9_passes_78 : decode cX9_passes 78 = .ok (.invokevirtual 102, 3) := by decide +kernel
theorem dX9_passes_81 : decode cX9_passes 81 = .ok (.ireturn, 1) := by decide +kernel
theorem dX9_storm_0 : decode cX9_storm 0 = .ok (.aload_n 0, 1) := by decide +kernel
theorem dX9_storm_1 : decode cX9_storm 1 = .ok (.invokevirtual 124, 3) := by decide +kernel
theorem dX9_storm_4 : decode cX9_storm 4 = .ok (.aload_n 0, 1) := by decide +kernel
theorem dX9_storm_5 : decode cX9_storm 5 = .ok (.aload_n 0, 1) := by decide +kernel
theorem dX9_storm_6 : decode cX9_storm 6 = .ok (.iload_n 1, 1) := by decide +kernel
theorem dX9_storm_7 : decode cX9_storm 7 = .ok (.iload_n 2, 1) := by decide +kernel
theorem dX9_storm_8 : decode cX9_storm 8 = .ok (.invokevirtual 127, 3) := by decide +kernel
theorem dX9_storm_11 : decode cX9_storm 11 = .ok (.invokevirtual 130, 3) := by decide +kernel
theorem dX9_storm_14 : decode cX9_storm 14 = .ok (.ireturn, 1) := by decide +kernel
theorem dX9_barrel_0 : decode cX9_barrel 0 = .ok (.aload_n 0, 1) := by decide +kernel
theorem dX9_barrel_1 : decode cX9_barrel 1 = .ok (.invokevirtual 124, 3) := by decide +kernel
theorem dX9_barrel_4 : decode cX9_barrel 4 = .ok (.aload_n 0, 1) := by decide +kernel
theorem dX9_barrel_5 : decode cX9_barrel 5 = .ok (.aload_n 0, 1) := by decide +kernel
theorem dX9_barrel_6 : decode cX9_barrel 6 = .ok (.iload_n 1, 1) := by decide +kernel
theorem dX9_barrel_7 : decode cX9_barrel 7 = .ok (.invokevirtual 133, 3) := by decide +kernel
theorem dX9_barrel_10 : decode cX9_barrel 10 = .ok (.invokevirtual 130, 3) := by decide +kernel
theorem dX9_barrel_13 : decode cX9_barrel 13 = .ok (.ireturn, 1) := by decide +kernel
theorem dX9_takeAway_0 : decode cX9_takeAway 0 = .ok (.aload_n 0, 1) := by decide +kernel
theorem dX9_takeAway_1 : decode cX9_takeAway 1 = .ok (.invokevirtual 124, 3) := by decide +kernel
theorem dX9_takeAway_4 : decode cX9_takeAway 4 = .ok (.aload_n 0, 1) := by decide +kernel
theorem dX9_takeAway_5 : decode cX9_takeAway 5 = .ok (.aload_n 0, 1) := by decide +kernel
theorem dX9_takeAway_6 : decode cX9_takeAway 6 = .ok (.iload_n 1, 1) := by decide +kernel
theorem dX9_takeAway_7 : decode cX9_takeAway 7 = .ok (.invokevirtual 136, 3) := by decide +kernel
theorem dX9_takeAway_10 : decode cX9_takeAway 10 = .ok (.invokevirtual 130, 3) := by decide +kernel
theorem dX9_takeAway_13 : decode cX9_takeAway 13 = .ok (.ireturn, 1) := by decide +kernel
theorem dX9_pour_0 : decode cX9_pour 0 = .ok (.aload_n 0, 1) := by decide +kernel
theorem dX9_pour_1 : decode cX9_pour 1 = .ok (.invokevirtual 124, 3) := by decide +kernel
theorem dX9_pour_4 : decode cX9_pour 4 = .ok (.aload_n 0, 1) := by decide +kernel
theorem dX9_pour_5 : decode cX9_pour 5 = .ok (.aload_n 0, 1) := by decide +kernel
theorem dX9_pour_6 : decode cX9_pour 6 = .ok (.iload_n 1, 1) := by decide +kernel
theorem dX9_pour_7 : decode cX9_pour 7 = .ok (.iload_n 2, 1) := by decide +kernel
theorem dX9_pour_8 : decode cX9_pour 8 = .ok (.iload_n 3, 1) := by decide +kernel
theorem dX9_pour_9 : decode cX9_pour 9 = .ok (.invokevirtual 139, 3) := by decide +kernel
theorem dX9_pour_12 : decode cX9_pour 12 = .ok (.invokevirtual 130, 3) := by decide +kernel
theorem dX9_pour_15 : decode cX9_pour 15 = .ok (.ireturn, 1) := by decide +kernel
theorem dX9_hail_0 : decode cX9_hail 0 = .ok (.aload_n 0, 1) := by decide +kernel
theorem dX9_hail_1 : decode cX9_hail 1 = .ok (.invokevirtual 124, 3) := by decide +kernel
theorem dX9_hail_4 : decode cX9_hail 4 = .ok (.aload_n 0, 1) := by decide +kernel
theorem dX9_hail_5 : decode cX9_hail 5 = .ok (.aload_n 0, 1) := by decide +kernel
theorem dX9_hail_6 : decode cX9_hail 6 = .ok (.iload_n 1, 1) := by decide +kernel
theorem dX9_hail_7 : decode cX9_hail 7 = .ok (.iload_n 2, 1) := by decide +kernel
theorem dX9_hail_8 : decode cX9_hail 8 = .ok (.invokevirtual 143, 3) := by decide +kernel
theorem dX9_hail_11 : decode cX9_hail 11 = .ok (.invokevirtual 130, 3) := by decide +kernel
theorem dX9_hail_14 : decode cX9_hail 14 = .ok (.ireturn, 1) := by decide +kernel
theorem dX9_sommelier_0 : decode cX9_sommelier 0 = .ok (.aload_n 0, 1) := by decide +kernel
theorem dX9_sommelier_1 : decode cX9_sommelier 1 = .ok (.invokevirtual 124, 3) := by decide +kernel
theorem dX9_sommelier_4 : decode cX9_sommelier 4 = .ok (.aload_n 0, 1) := by decide +kernel
theorem dX9_sommelier_5 : decode cX9_sommelier 5 = .ok (.aload_n 0, 1) := by decide +kernel
theorem dX9_sommelier_6 : decode cX9_sommelier 6 = .ok (.iload_n 1, 1) := by decide +kernel
theorem dX9_sommelier_7 : decode cX9_sommelier 7 = .ok (.iload_n 2, 1) := by decide +kernel
theorem dX9_sommelier_8 : decode cX9_sommelier 8 = .ok (.ifCond .eq 7, 3) := by decide +kernel
theorem dX9_sommelier_11 : decode cX9_sommelier 11 = .ok (.iconst 1, 1) := by decide +kernel
theorem dX9_sommelier_12 : decode cX9_sommelier 12 = .ok (.goto 4, 3) := by decide +kernel
theorem dX9_sommelier_15 : decode cX9_sommelier 15 = .ok (.iconst 0, 1) := by decide +kernel
theorem dX9_sommelier_16 : decode cX9_sommelier 16 = .ok (.invokevirtual 146, 3) := by decide +kernel
theorem dX9_sommelier_19 : decode cX9_sommelier 19 = .ok (.invokevirtual 130, 3) := by decide +kernel
theorem dX9_sommelier_22 : decode cX9_sommelier 22 = .ok (.ireturn, 1) := by decide +kernel
theorem dX9_leave_0 : decode cX9_leave 0 = .ok (.aload_n 0, 1) := by decide +kernel
theorem dX9_leave_1 : decode cX9_leave 1 = .ok (.invokevirtual 124, 3) := by decide +kernel
theorem dX9_leave_4 : decode cX9_leave 4 = .ok (.aload_n 0, 1) := by decide +kernel
theorem dX9_leave_5 : decode cX9_leave 5 = .ok (.aload_n 0, 1) := by decide +kernel
theorem dX9_leave_6 : decode cX9_leave 6 = .ok (.iload_n 1, 1) := by decide +kernel
theorem dX9_leave_7 : decode cX9_leave 7 = .ok (.invokevirtual 149, 3) := by decide +kernel
theorem dX9_leave_10 : decode cX9_leave 10 = .ok (.invokevirtual 130, 3) := by decide +kernel
theorem dX9_leave_13 : decode cX9_leave 13 = .ok (.ireturn, 1) := by decide +kernel
theorem dX9_drink_0 : decode cX9_drink 0 = .ok (.aload_n 0, 1) := by decide +kernel
theorem dX9_drink_1 : decode cX9_drink 1 = .ok (.invokevirtual 124, 3) := by decide +kernel
theorem dX9_drink_4 : decode cX9_drink 4 = .ok (.aload_n 0, 1) := by decide +kernel
theorem dX9_drink_5 : decode cX9_drink 5 = .ok (.aload_n 0, 1) := by decide +kernel
theorem dX9_drink_6 : decode cX9_drink 6 = .ok (.iload_n 1, 1) := by decide +kernel
theorem dX9_drink_7 : decode cX9_drink 7 = .ok (.invokevirtual 152, 3) := by decide +kernel
theorem dX9_drink_10 : decode cX9_drink 10 = .ok (.invokevirtual 130, 3) := by decide +kernel
theorem dX9_drink_13 : decode cX9_drink 13 = .ok (.ireturn, 1) := by decide +kernel
theorem dX9_clear_0 : decode cX9_clear 0 = .ok (.aload_n 0, 1) := by decide +kernel
theorem dX9_clear_1 : decode cX9_clear 1 = .ok (.invokevirtual 124, 3) := by decide +kernel
theorem dX9_clear_4 : decode cX9_clear 4 = .ok (.aload_n 0, 1) := by decide +kernel
theorem dX9_clear_5 : decode cX9_clear 5 = .ok (.aload_n 0, 1) := by decide +kernel
theorem dX9_clear_6 : decode cX9_clear 6 = .ok (.iload_n 1, 1) := by decide +kernel
theorem dX9_clear_7 : decode cX9_clear 7 = .ok (.invokevirtual 155, 3) := by decide +kernel
theorem dX9_clear_10 : decode cX9_clear 10 = .ok (.invokevirtual 130, 3) := by decide +kernel
theorem dX9_clear_13 : decode cX9_clear 13 = .ok (.ireturn, 1) := by decide +kernel
theorem dX9_year_0 : decode cX9_year 0 = .ok (.aload_n 0, 1) := by decide +kernel
theorem dX9_year_1 : decode cX9_year 1 = .ok (.invokevirtual 124, 3) := by decide +kernel
theorem dX9_year_4 : decode cX9_year 4 = .ok (.aload_n 0, 1) := by decide +kernel
theorem dX9_year_5 : decode cX9_year 5 = .ok (.aload_n 0, 1) := by decide +kernel
theorem dX9_year_6 : decode cX9_year 6 = .ok (.invokevirtual 158, 3) := by decide +kernel
theorem dX9_year_9 : decode cX9_year 9 = .ok (.invokevirtual 130, 3) := by decide +kernel
theorem dX9_year_12 : decode cX9_year 12 = .ok (.ireturn, 1) := by decide +kernel
theorem dX9_under_0 : decode cX9_under 0 = .ok (.iconst 0, 1) := by decide +kernel
theorem dX9_under_1 : decode cX9_under 1 = .ok (.istore_n 3, 1) := by decide +kernel
theorem dX9_under_2 : decode cX9_under 2 = .ok (.iconst 0, 1) := by decide +kernel
theorem dX9_under_3 : decode cX9_under 3 = .ok (.istore 4, 2) := by decide +kernel
theorem dX9_under_5 : decode cX9_under 5 = .ok (.iload 4, 2) := by decide +kernel
theorem dX9_under_7 : decode cX9_under 7 = .ok (.aload_n 0, 1) := by decide +kernel
theorem dX9_under_8 : decode cX9_under 8 = .ok (.getfield 7, 3) := by decide +kernel
theorem dX9_under_11 : decode cX9_under 11 = .ok (.iconst 0, 1) := by decide +kernel
theorem dX9_under_12 : decode cX9_under 12 = .ok (.iaload, 1) := by decide +kernel
theorem dX9_under_13 : decode cX9_under 13 = .ok (.if_icmp .ge 65, 3) := by decide +kernel
theorem dX9_under_16 : decode cX9_under 16 = .ok (.aload_n 0, 1) := by decide +kernel
theorem dX9_under_17 : decode cX9_under 17 = .ok (.iload 4, 2) := by decide +kernel
theorem dX9_under_19 : decode cX9_under 19 = .ok (.iconst 0, 1) := by decide +kernel
theorem dX9_under_20 : decode cX9_under 20 = .ok (.invokevirtual 67, 3) := by decide +kernel
theorem dX9_under_23 : decode cX9_under 23 = .ok (.iload_n 1, 1) := by decide +kernel
theorem dX9_under_24 : decode cX9_under 24 = .ok (.if_icmp .eq 6, 3) := by decide +kernel
theorem dX9_under_27 : decode cX9_under 27 = .ok (.goto 45, 3) := by decide +kernel
theorem dX9_under_30 : decode cX9_under 30 = .ok (.iload_n 3, 1) := by decide +kernel
theorem dX9_under_31 : decode cX9_under 31 = .ok (.iload_n 2, 1) := by decide +kernel
theorem dX9_under_32 : decode cX9_under 32 = .ok (.iconst 1, 1) := by decide +kernel
theorem dX9_under_33 : decode cX9_under 33 = .ok (.if_icmp .ne 7, 3) := by decide +kernel
theorem dX9_under_36 : decode cX9_under 36 = .ok (.iconst 1, 1) := by decide +kernel
theorem dX9_under_37 : decode cX9_under 37 = .ok (.goto 33, 3) := by decide +kernel
theorem dX9_under_40 : decode cX9_under 40 = .ok (.iload_n 2, 1) := by decide +kernel
theorem dX9_under_41 : decode cX9_under 41 = .ok (.iconst 2, 1) := by decide +kernel
theorem dX9_under_42 : decode cX9_under 42 = .ok (.if_icmp .ne 21, 3) := by decide +kernel
theorem dX9_under_45 : decode cX9_under 45 = .ok (.aload_n 0, 1) := by decide +kernel
theorem dX9_under_46 : decode cX9_under 46 = .ok (.iload 4, 2) := by decide +kernel
theorem dX9_under_48 : decode cX9_under 48 = .ok (.iconst 1, 1) := by decide +kernel
theorem dX9_under_49 : decode cX9_under 49 = .ok (.invokevirtual 67, 3) := by decide +kernel
theorem dX9_under_52 : decode cX9_under 52 = .ok (.ifCond .ne 7, 3) := by decide +kernel
theorem dX9_under_55 : decode cX9_under 55 = .ok (.iconst 1, 1) := by decide +kernel
theorem dX9_under_56 : decode cX9_under 56 = .ok (.goto 14, 3) := by decide +kernel
theorem dX9_under_59 : decode cX9_under 59 = .ok (.iconst 0, 1) := by decide +kernel
theorem dX9_under_60 : decode cX9_under 60 = .ok (.goto 10, 3) := by decide +kernel
theorem dX9_under_63 : decode cX9_under 63 = .ok (.aload_n 0, 1) := by decide +kernel
theorem dX9_under_64 : decode cX9_under 64 = .ok (.iload 4, 2) := by decide +kernel
theorem dX9_under_66 : decode cX9_under 66 = .ok (.iconst 1, 1) := by decide +kernel
theorem dX9_under_67 : decode cX9_under 67 = .ok (.invokevirtual 67, 3) := by decide +kernel
theorem dX9_under_70 : decode cX9_under 70 = .ok (.iadd, 1) := by decide +kernel
theorem dX9_under_71 : decode cX9_under 71 = .ok (.istore_n 3, 1) := by decide +kernel
theorem dX9_under_72 : decode cX9_under 72 = .ok (.iinc 4 1, 3) := by decide +kernel
theorem dX9_under_75 : decode cX9_under 75 = .ok (.goto (-70), 3) := by decide +kernel
theorem dX9_under_78 : decode cX9_under 78 = .ok (.iload_n 3, 1) := by decide +kernel
theorem dX9_under_79 : decode cX9_under 79 = .ok (.ireturn, 1) := by decide +kernel
theorem dX9_roofOf_0 : decode cX9_roofOf 0 = .ok (.aload_n 0, 1) := by decide +kernel
theorem dX9_roofOf_1 : decode cX9_roofOf 1 = .ok (.iload_n 1, 1) := by decide +kernel
theorem dX9_roofOf_2 : decode cX9_roofOf 2 = .ok (.iconst 0, 1) := by decide +kernel
theorem dX9_roofOf_3 : decode cX9_roofOf 3 = .ok (.iconst 3, 1) := by decide +kernel
theorem dX9_roofOf_4 : decode cX9_roofOf 4 = .ok (.invokestatic 63, 3) := by decide +kernel
theorem dX9_roofOf_7 : decode cX9_roofOf 7 = .ok (.ifCond .ne 7, 3) := by decide +kernel
theorem dX9_roofOf_10 : decode cX9_roofOf 10 = .ok (.iconst 1, 1) := by decide +kernel
theorem dX9_roofOf_11 : decode cX9_roofOf 11 = .ok (.goto 17, 3) := by decide +kernel
theorem dX9_roofOf_14 : decode cX9_roofOf 14 = .ok (.iload_n 2, 1) := by decide +kernel
theorem dX9_roofOf_15 : decode cX9_roofOf 15 = .ok (.iconst 0, 1) := by decide +kernel
theorem dX9_roofOf_16 : decode cX9_roofOf 16 = .ok (.iconst 3, 1) := by decide +kernel
theorem dX9_roofOf_17 : decode cX9_roofOf 17 = .ok (.invokestatic 63, 3) := by decide +kernel
theorem dX9_roofOf_20 : decode cX9_roofOf 20 = .ok (.ifCond .eq 7, 3) := by decide +kernel
theorem dX9_roofOf_23 : decode cX9_roofOf 23 = .ok (.iconst 0, 1) := by decide +kernel
theorem dX9_roofOf_24 : decode cX9_roofOf 24 = .ok (.goto 4, 3) := by decide +kernel
theorem dX9_roofOf_27 : decode cX9_roofOf 27 = .ok (.iconst 2, 1) := by decide +kernel
theorem dX9_roofOf_28 : decode cX9_roofOf 28 = .ok (.putfield 35, 3) := by decide +kernel
theorem dX9_roofOf_31 : decode cX9_roofOf 31 = .ok (.aload_n 0, 1) := by decide +kernel
theorem dX9_roofOf_32 : decode cX9_roofOf 32 = .ok (.getfield 35, 3) := by decide +kernel
theorem dX9_roofOf_35 : decode cX9_roofOf 35 = .ok (.ifCond .le 7, 3) := by decide +kernel
theorem dX9_roofOf_38 : decode cX9_roofOf 38 = .ok (.iconst 0, 1) := by decide +kernel
theorem dX9_roofOf_39 : decode cX9_roofOf 39 = .ok (.goto 25, 3) := by decide +kernel
theorem dX9_roofOf_42 : decode cX9_roofOf 42 = .ok (.iload_n 2, 1) := by decide +kernel
theorem dX9_roofOf_43 : decode cX9_roofOf 43 = .ok (.ifCond .ne 15, 3) := by decide +kernel
theorem dX9_roofOf_46 : decode cX9_roofOf 46 = .ok (.aload_n 0, 1) := by decide +kernel
theorem dX9_roofOf_47 : decode cX9_roofOf 47 = .ok (.getfield 7, 3) := by decide +kernel
theorem dX9_roofOf_50 : decode cX9_roofOf 50 = .ok (.bipush 11, 2) := by decide +kernel
theorem dX9_roofOf_52 : decode cX9_roofOf 52 = .ok (.iload_n 1, 1) := by decide +kernel
theorem dX9_roofOf_53 : decode cX9_roofOf 53 = .ok (.iadd, 1) := by decide +kernel
theorem dX9_roofOf_54 : decode cX9_roofOf 54 = .ok (.iaload, 1) := by decide +kernel
theorem dX9_roofOf_55 : decode cX9_roofOf 55 = .ok (.goto 9, 3) := by decide +kernel
theorem dX9_roofOf_58 : decode cX9_roofOf 58 = .ok (.aload_n 0, 1) := by decide +kernel
theorem dX9_roofOf_59 : decode cX9_roofOf 59 = .ok (.iload_n 1, 1) := by decide +kernel
theorem dX9_roofOf_60 : decode cX9_roofOf 60 = .ok (.iload_n 2, 1) := by decide +kernel
theorem dX9_roofOf_61 : decode cX9_roofOf 61 = .ok (.invokevirtual 162, 3) := by decide +kernel
theorem dX9_roofOf_64 : decode cX9_roofOf 64 = .ok (.ireturn, 1) := by decide +kernel
theorem dX9_barrelOf_0 : decode cX9_barrelOf 0 = .ok (.aload_n 0, 1) := by decide +kernel
theorem dX9_barrelOf_1 : decode cX9_barrelOf 1 = .ok (.aload_n 0, 1) := by decide +kernel
theorem dX9_barrelOf_2 : decode cX9_barrelOf 2 = .ok (.iload_n 1, 1) := by decide +kernel
theorem dX9_barrelOf_3 : decode cX9_barrelOf 3 = .ok (.invokevirtual 105, 3) := by decide +kernel
theorem dX9_barrelOf_6 : decode cX9_barrelOf 6 = .ok (.ifCond .eq 7, 3) := by decide +kernel
theorem dX9_barrelOf_9 : decode cX9_barrelOf 9 = .ok (.iconst 0, 1) := by decide +kernel
theorem dX9_barrelOf_10 : decode cX9_barrelOf 10 = .ok (.goto 4, 3) := by decide +kernel
theorem dX9_barrelOf_13 : decode cX9_barrelOf 13 = .ok (.iconst 1, 1) := by decide +kernel
theorem dX9_barrelOf_14 : decode cX9_barrelOf 14 = .ok (.putfield 35, 3) := by decide +kernel
theorem dX9_barrelOf_17 : decode cX9_barrelOf 17 = .ok (.aload_n 0, 1) := by decide +kernel
theorem dX9_barrelOf_18 : decode cX9_barrelOf 18 = .ok (.getfield 35, 3) := by decide +kernel
theorem dX9_barrelOf_21 : decode cX9_barrelOf 21 = .ok (.ifCond .le 5, 3) := by decide +kernel
theorem dX9_barrelOf_24 : decode cX9_barrelOf 24 = .ok (.iconst 0, 1) := by decide +kernel
theorem dX9_barrelOf_25 : decode cX9_barrelOf 25 = .ok (.ireturn, 1) := by decide +kernel
theorem dX9_barrelOf_26 : decode cX9_barrelOf 26 = .ok (.iload_n 2, 1) := by decide +kernel
theorem dX9_barrelOf_27 : decode cX9_barrelOf 27 = .ok (.tableswitch 60 0 6 #[41, 41, 41, 41, 41, 48, 54], 41) := by decide +kernel
theorem dX9_barrelOf_68 : decode cX9_barrelOf 68 = .ok (.aload_n 0, 1) := by decide +kernel
theorem dX9_barrelOf_69 : decode cX9_barrelOf 69 = .ok (.iload_n 1, 1) := by decide +kernel
theorem dX9_barrelOf_70 : decode cX9_barrelOf 70 = .ok (.iload_n 2, 1) := by decide +kernel
theorem dX9_barrelOf_71 : decode cX9_barrelOf 71 = .ok (.invokevirtual 67, 3) := by decide +kernel
theorem dX9_barrelOf_74 : decode cX9_barrelOf 74 = .ok (.ireturn, 1) := by decide +kernel
theorem dX9_barrelOf_75 : decode cX9_barrelOf 75 = .ok (.aload_n 0, 1) := by decide +kernel
theorem dX9_barrelOf_76 : decode cX9_barrelOf 76 = .ok (.iload_n 1, 1) := by decide +kernel
theorem dX9_barrelOf_77 : decode cX9_barrelOf 77 = .ok (.invokevirtual 74, 3) := by decide +kernel
theorem dX9_barrelOf_80 : decode cX9_barrelOf 80 = .ok (.ireturn, 1) := by decide +kernel
theorem dX9_barrelOf_81 : decode cX9_barrelOf 81 = .ok (.aload_n 0, 1) := by decide +kernel
theorem dX9_barrelOf_82 : decode cX9_barrelOf 82 = .ok (.iload_n 1, 1) := by decide +kernel
theorem dX9_barrelOf_83 : decode cX9_barrelOf 83 = .ok (.invokevirtual 77, 3) := by decide +kernel
theorem dX9_barrelOf_86 : decode cX9_barrelOf 86 = .ok (.ireturn, 1) := by decide +kernel
theorem dX9_barrelOf_87 : decode cX9_barrelOf 87 = .ok (.aload_n 0, 1) := by decide +kernel
theorem dX9_barrelOf_88 : decode cX9_barrelOf 88 = .ok (.iconst 2, 1) := by decide +kernel
theorem dX9_barrelOf_89 : decode cX9_barrelOf 89 = .ok (.invokevirtual 60, 3) := by decide +kernel
theorem dX9_barrelOf_92 : decode cX9_barrelOf 92 = .ok (.ireturn, 1) := by decide +kernel
theorem dX9_filled_0 : decode cX9_filled 0 = .ok (.aload_n 0, 1) := by decide +kernel
theorem dX9_filled_1 : decode cX9_filled 1 = .ok (.iload_n 1, 1) := by decide +kernel
theorem dX9_filled_2 : decode cX9_filled 2 = .ok (.invokevirtual 105, 3) := by decide +kernel
theorem dX9_filled_5 : decode cX9_filled 5 = .ok (.ifCond .ne 7, 3) := by decide +kernel
theorem dX9_filled_8 : decode cX9_filled 8 = .ok (.iconst 1, 1) := by decide +kernel
theorem dX9_filled_9 : decode cX9_filled 9 = .ok (.goto 17, 3) := by decide +kernel
theorem dX9_filled_12 : decode cX9_filled 12 = .ok (.aload_n 0, 1) := by decide +kernel
theorem dX9_filled_13 : decode cX9_filled 13 = .ok (.iload_n 1, 1) := by decide +kernel
theorem dX9_filled_14 : decode cX9_filled 14 = .ok (.iconst 1, 1) := by decide +kernel
theorem dX9_filled_15 : decode cX9_filled 15 = .ok (.invokevirtual 67, 3) := by decide +kernel
theorem dX9_filled_18 : decode cX9_filled 18 = .ok (.ifCond .ne 7, 3) := by decide +kernel
theorem dX9_filled_21 : decode cX9_filled 21 = .ok (.iconst 2, 1) := by decide +kernel
theorem dX9_filled_22 : decode cX9_filled 22 = .ok (.goto 4, 3) := by decide +kernel
theorem dX9_filled_25 : decode cX9_filled 25 = .ok (.iconst 0, 1) := by decide +kernel
theorem dX9_filled_26 : decode cX9_filled 26 = .ok (.ireturn, 1) := by decide +kernel
theorem dX9_note_0 : decode cX9_note 0 = .ok (.aload_n 0, 1) := by decide +kernel
theorem dX9_note_1 : decode cX9_note 1 = .ok (.aload_n 0, 1) := by decide +kernel
theorem dX9_note_2 : decode cX9_note 2 = .ok (.iload_n 1, 1) := by decide +kernel
theorem dX9_note_3 : decode cX9_note 3 = .ok (.invokevirtual 165, 3) := by decide +kernel
theorem dX9_note_6 : decode cX9_note 6 = .ok (.putfield 35, 3) := by decide +kernel
theorem dX9_note_9 : decode cX9_note 9 = .ok (.aload_n 0, 1) := by decide +kernel
theorem dX9_note_10 : decode cX9_note 10 = .ok (.getfield 35, 3) := by decide +kernel
theorem dX9_note_13 : decode cX9_note 13 = .ok (.ifCond .le 7, 3) := by decide +kernel
theorem dX9_note_16 : decode cX9_note 16 = .ok (.iconst 0, 1) := by decide +kernel
theorem dX9_note_17 : decode cX9_note 17 = .ok (.goto 9, 3) := by decide +kernel
theorem dX9_note_20 : decode cX9_note 20 = .ok (.aload_n 0, 1) := by decide +kernel
theorem dX9_note_21 : decode cX9_note 21 = .ok (.iload_n 1, 1) := by decide +kernel
theorem dX9_note_22 : decode cX9_note 22 = .ok (.iconst 0, 1) := by decide +kernel
theorem dX9_note_23 : decode cX9_note 23 = .ok (.invokevirtual 121, 3) := by decide +kernel
theorem dX9_note_26 : decode cX9_note 26 = .ok (.ireturn, 1) := by decide +kernel
theorem dX9_noteAgain_0 : decode cX9_noteAgain 0 = .ok (.aload_n 0, 1) := by decide +kernel
theorem dX9_noteAgain_1 : decode cX9_noteAgain 1 = .ok (.iload_n 1, 1) := by decide +kernel
theorem dX9_noteAgain_2 : decode cX9_noteAgain 2 = .ok (.invokevirtual 168, 3) := by decide +kernel
theorem dX9_noteAgain_5 : decode cX9_noteAgain 5 = .ok (.ireturn, 1) := by decide +kernel
theorem dX9_noteIn_0 : decode cX9_noteIn 0 = .ok (.aload_n 0, 1) := by decide +kernel
theorem dX9_noteIn_1 : decode cX9_noteIn 1 = .ok (.aload_n 0, 1) := by decide +kernel
theorem dX9_noteIn_2 : decode cX9_noteIn 2 = .ok (.iload_n 1, 1) := by decide +kernel
theorem dX9_noteIn_3 : decode cX9_noteIn 3 = .ok (.invokevirtual 165, 3) := by decide +kernel
theorem dX9_noteIn_6 : decode cX9_noteIn 6 = .ok (.putfield 35, 3) := by decide +kernel
theorem dX9_noteIn_9 : decode cX9_noteIn 9 = .ok (.aload_n 0, 1) := by decide +kernel
theorem dX9_noteIn_10 : decode cX9_noteIn 10 = .ok (.aload_n 0, 1) := by decide +kernel
theorem dX9_noteIn_11 : decode cX9_noteIn 11 = .ok (.getfield 35, 3) := by decide +kernel
theorem dX9_noteIn_14 : decode cX9_noteIn 14 = .ok (.ifCond .le 10, 3) := by decide +kernel
theorem dX9_noteIn_17 : decode cX9_noteIn 17 = .ok (.aload_n 0, 1) := by decide +kernel
theorem dX9_noteIn_18 : decode cX9_noteIn 18 = .ok (.getfield 35, 3) := by decide +kernel
theorem dX9_noteIn_21 : decode cX9_noteIn 21 = .ok (.goto 18, 3) := by decide +kernel
theorem dX9_noteIn_24 : decode cX9_noteIn 24 = .ok (.iload_n 2, 1) := by decide +kernel
theorem dX9_noteIn_25 : decode cX9_noteIn 25 = .ok (.iconst 0, 1) := by decide +kernel
theorem dX9_noteIn_26 : decode cX9_noteIn 26 = .ok (.bipush 20, 2) := by decide +kernel
theorem dX9_noteIn_28 : decode cX9_noteIn 28 = .ok (.invokestatic 63, 3) := by decide +kernel
theorem dX9_noteIn_31 : decode cX9_noteIn 31 = .ok (.ifCond .eq 7, 3) := by decide +kernel
theorem dX9_noteIn_34 : decode cX9_noteIn 34 = .ok (.iconst 0, 1) := by decide +kernel
theorem dX9_noteIn_35 : decode cX9_noteIn 35 = .ok (.goto 4, 3) := by decide +kernel
theorem dX9_noteIn_38 : decode cX9_noteIn 38 = .ok (.iconst 3, 1) := by decide +kernel
theorem dX9_noteIn_39 : decode cX9_noteIn 39 = .ok (.putfield 35, 3) := by decide +kernel
theorem dX9_noteIn_42 : decode cX9_noteIn 42 = .ok (.aload_n 0, 1) := by decide +kernel
theorem dX9_noteIn_43 : decode cX9_noteIn 43 = .ok (.getfield 35, 3) := by decide +kernel
theorem dX9_noteIn_46 : decode cX9_noteIn 46 = .ok (.ifCond .le 7, 3) := by decide +kernel
theorem dX9_noteIn_49 : decode cX9_noteIn 49 = .ok (.iconst 0, 1) := by decide +kernel
theorem dX9_noteIn_50 : decode cX9_noteIn 50 = .ok (.goto 9, 3) := by decide +kernel
theorem dX9_noteIn_53 : decode cX9_noteIn 53 = .ok (.aload_n 0, 1) := by decide +kernel
theorem dX9_noteIn_54 : decode cX9_noteIn 54 = .ok (.iload_n 1, 1) := by decide +kernel
theorem dX9_noteIn_55 : decode cX9_noteIn 55 = .ok (.iload_n 2, 1) := by decide +kernel
theorem dX9_noteIn_56 : decode cX9_noteIn 56 = .ok (.invokevirtual 121, 3) := by decide +kernel
theorem dX9_noteIn_59 : decode cX9_noteIn 59 = .ok (.ireturn, 1) := by decide +kernel
theorem dX9_notices_0 : decode cX9_notices 0 = .ok (.aload_n 0, 1) := by decide +kernel
theorem dX9_notices_1 : decode cX9_notices 1 = .ok (.aload_n 0, 1) := by decide +kernel
theorem dX9_notices_2 : decode cX9_notices 2 = .ok (.iload_n 1, 1) := by decide +kernel
theorem dX9_notices_3 : decode cX9_notices 3 = .ok (.invokevirtual 115, 3) := by decide +kernel
theorem dX9_notices_6 : decode cX9_notices 6 = .ok (.ifCond .eq 15, 3) := by decide +kernel
theorem dX9_notices_9 : decode cX9_notices 9 = .ok (.aload_n 0, 1) := by decide +kernel
theorem dX9_notices_10 : decode cX9_notices 10 = .ok (.iload_n 2, 1) := by decide +kernel
theorem dX9_notices_11 : decode cX9_notices 11 = .ok (.invokevirtual 105, 3) := by decide +kernel
theorem dX9_notices_14 : decode cX9_notices 14 = .ok (.ifCond .eq 7, 3) := by decide +kernel
theorem dX9_notices_17 : decode cX9_notices 17 = .ok (.iconst 0, 1) := by decide +kernel
theorem dX9_notices_18 : decode cX9_notices 18 = .ok (.goto 4, 3) := by decide +kernel
theorem dX9_notices_21 : decode cX9_notices 21 = .ok (.iconst 1, 1) := by decide +kernel
theorem dX9_notices_22 : decode cX9_notices 22 = .ok (.putfield 35, 3) := by decide +kernel
theorem dX9_notices_25 : decode cX9_notices 25 = .ok (.aload_n 0, 1) := by decide +kernel
theorem dX9_notices_26 : decode cX9_notices 26 = .ok (.getfield 35, 3) := by decide +kernel
theorem dX9_notices_29 : decode cX9_notices 29 = .ok (.ifCond .ne 20, 3) := by decide +kernel
theorem dX9_notices_32 : decode cX9_notices 32 = .ok (.aload_n 0, 1) := by decide +kernel
theorem dX9_notices_33 : decode cX9_notices 33 = .ok (.iload_n 1, 1) := by decide +kernel
theorem dX9_notices_34 : decode cX9_notices 34 = .ok (.aload_n 0, 1) := by decide +kernel
theorem dX9_notices_35 : decode cX9_notices 35 = .ok (.iload_n 2, 1) := by decide +kernel
theorem dX9_notices_36 : decode cX9_notices 36 = .ok (.invokevirtual 77, 3) := by decide +kernel
theorem dX9_notices_39 : decode cX9_notices 39 = .ok (.invokevirtual 80, 3) := by decide +kernel
theorem dX9_notices_42 : decode cX9_notices 42 = .ok (.ifCond .eq 7, 3) := by decide +kernel
theorem dX9_notices_45 : decode cX9_notices 45 = .ok (.iconst 1, 1) := by decide +kernel
theorem dX9_notices_46 : decode cX9_notices 46 = .ok (.goto 4, 3) := by decide +kernel
theorem dX9_notices_49 : decode cX9_notices 49 = .ok (.iconst 0, 1) := by decide +kernel
theorem dX9_notices_50 : decode cX9_notices 50 = .ok (.ireturn, 1) := by decide +kernel
theorem dX9_noticing_0 : decode cX9_noticing 0 = .ok (.aload_n 0, 1) := by decide +kernel
theorem dX9_noticing_1 : decode cX9_noticing 1 = .ok (.aload_n 0, 1) := by decide +kernel
theorem dX9_noticing_2 : decode cX9_noticing 2 = .ok (.iload_n 1, 1) := by decide +kernel
theorem dX9_noticing_3 : decode cX9_noticing 3 = .ok (.invokevirtual 105, 3) := by decide +kernel
theorem dX9_noticing_6 : decode cX9_noticing 6 = .ok (.ifCond .eq 7, 3) := by decide +kernel
theorem dX9_noticing_9 : decode cX9_noticing 9 = .ok (.iconst 0, 1) := by decide +kernel
theorem dX9_noticing_10 : decode cX9_noticing 10 = .ok (.goto 4, 3) := by decide +kernel
theorem dX9_noticing_13 : decode cX9_noticing 13 = .ok (.iconst 1, 1) := by decide +kernel
theorem dX9_noticing_14 : decode cX9_noticing 14 = .ok (.putfield 35, 3) := by decide +kernel
theorem dX9_noticing_17 : decode cX9_noticing 17 = .ok (.aload_n 0, 1) := by decide +kernel
theorem dX9_noticing_18 : decode cX9_noticing 18 = .ok (.getfield 35, 3) := by decide +kernel
theorem dX9_noticing_21 : decode cX9_noticing 21 = .ok (.ifCond .le 7, 3) := by decide +kernel
theorem dX9_noticing_24 : decode cX9_noticing 24 = .ok (.iconst 0, 1) := by decide +kernel
theorem dX9_noticing_25 : decode cX9_noticing 25 = .ok (.goto 12, 3) := by decide +kernel
theorem dX9_noticing_28 : decode cX9_noticing 28 = .ok (.aload_n 0, 1) := by decide +kernel
theorem dX9_noticing_29 : decode cX9_noticing 29 = .ok (.aload_n 0, 1) := by decide +kernel
theorem dX9_noticing_30 : decode cX9_noticing 30 = .ok (.iload_n 1, 1) := by decide +kernel
theorem dX9_noticing_31 : decode cX9_noticing 31 = .ok (.invokevirtual 77, 3) := by decide +kernel
theorem dX9_noticing_34 : decode cX9_noticing 34 = .ok (.invokevirtual 118, 3) := by decide +kernel
theorem dX9_noticing_37 : decode cX9_noticing 37 = .ok (.ireturn, 1) := by decide +kernel
theorem dX9_hidden_0 : decode cX9_hidden 0 = .ok (.aload_n 0, 1) := by decide +kernel
theorem dX9_hidden_1 : decode cX9_hidden 1 = .ok (.aload_n 0, 1) := by decide +kernel
theorem dX9_hidden_2 : decode cX9_hidden 2 = .ok (.iload_n 1, 1) := by decide +kernel
theorem dX9_hidden_3 : decode cX9_hidden 3 = .ok (.invokevirtual 165, 3) := by decide +kernel
theorem dX9_hidden_6 : decode cX9_hidden 6 = .ok (.putfield 35, 3) := by decide +kernel
theorem dX9_hidden_9 : decode cX9_hidden 9 = .ok (.aload_n 0, 1) := by decide +kernel
theorem dX9_hidden_10 : decode cX9_hidden 10 = .ok (.getfield 35, 3) := by decide +kernel
theorem dX9_hidden_13 : decode cX9_hidden 13 = .ok (.ifCond .le 5, 3) := by decide +kernel
theorem dX9_hidden_16 : decode cX9_hidden 16 = .ok (.iconst 0, 1) := by decide +kernel
theorem dX9_hidden_17 : decode cX9_hidden 17 = .ok (.ireturn, 1) := by decide +kernel
theorem dX9_hidden_18 : decode cX9_hidden 18 = .ok (.aload_n 0, 1) := by decide +kernel
theorem dX9_hidden_19 : decode cX9_hidden 19 = .ok (.aload_n 0, 1) := by decide +kernel
theorem dX9_hidden_20 : decode cX9_hidden 20 = .ok (.iload_n 1, 1) := by decide +kernel
theorem dX9_hidden_21 : decode cX9_hidden 21 = .ok (.invokevirtual 77, 3) := by decide +kernel
theorem dX9_hidden_24 : decode cX9_hidden 24 = .ok (.invokevirtual 118, 3) := by decide +kernel
theorem dX9_hidden_27 : decode cX9_hidden 27 = .ok (.ifCond .eq 9, 3) := by decide +kernel
theorem dX9_hidden_30 : decode cX9_hidden 30 = .ok (.aload_n 0, 1) := by decide +kernel
theorem dX9_hidden_31 : decode cX9_hidden 31 = .ok (.iconst 2, 1) := by decide +kernel
theorem dX9_hidden_32 : decode cX9_hidden 32 = .ok (.invokevirtual 60, 3) := by decide +kernel
theorem dX9_hidden_35 : decode cX9_hidden 35 = .ok (.ireturn, 1) := by decide +kernel
theorem dX9_hidden_36 : decode cX9_hidden 36 = .ok (.bipush 20, 2) := by decide +kernel
theorem dX9_hidden_38 : decode cX9_hidden 38 = .ok (.aload_n 0, 1) := by decide +kernel
theorem dX9_hidden_39 : decode cX9_hidden 39 = .ok (.iload_n 1, 1) := by decide +kernel
theorem dX9_hidden_40 : decode cX9_hidden 40 = .ok (.iconst 1, 1) := by decide +kernel
theorem dX9_hidden_41 : decode cX9_hidden 41 = .ok (.invokevirtual 67, 3) := by decide +kernel
theorem dX9_hidden_44 : decode cX9_hidden 44 = .ok (.isub, 1) := by decide +kernel
theorem dX9_hidden_45 : decode cX9_hidden 45 = .ok (.aload_n 0, 1) := by decide +kernel
theorem dX9_hidden_46 : decode cX9_hidden 46 = .ok (.getfield 7, 3) := by decide +kernel
theorem dX9_hidden_49 : decode cX9_hidden 49 = .ok (.iconst 2, 1) := by decide +kernel
theorem dX9_hidden_50 : decode cX9_hidden 50 = .ok (.iaload, 1) := by decide +kernel
theorem dX9_hidden_51 : decode cX9_hidden 51 = .ok (.if_icmp .ge 15, 3) := by decide +kernel
theorem dX9_hidden_54 : decode cX9_hidden 54 = .ok (.bipush 20, 2) := by decide +kernel
theorem dX9_hidden_56 : decode cX9_hidden 56 = .ok (.aload_n 0, 1) := by decide +kernel
theorem dX9_hidden_57 : decode cX9_hidden 57 = .ok (.iload_n 1, 1) := by decide +kernel
theorem dX9_hidden_58 : decode cX9_hidden 58 = .ok (.iconst 1, 1) := by decide +kernel
theorem dX9_hidden_59 : decode cX9_hidden 59 = .ok (.invokevirtual 67, 3) := by decide +kernel
theorem dX9_hidden_62 : decode cX9_hidden 62 = .ok (.isub, 1) := by decide +kernel
theorem dX9_hidden_63 : decode cX9_hidden 63 = .ok (.goto 9, 3) := by decide +kernel
theorem dX9_hidden_66 : decode cX9_hidden 66 = .ok (.aload_n 0, 1) := by decide +kernel
theorem dX9_hidden_67 : decode cX9_hidden 67 = .ok (.getfield 7, 3) := by decide +kernel
theorem dX9_hidden_70 : decode cX9_hidden 70 = .ok (.iconst 2, 1) := by decide +kernel
theorem dX9_hidden_71 : decode cX9_hidden 71 = .ok (.iaload, 1) := by decide +kernel
theorem dX9_hidden_72 : decode cX9_hidden 72 = .ok (.istore_n 2, 1) := by decide +kernel
theorem dX9_hidden_73 : decode cX9_hidden 73 = .ok (.aload_n 0, 1) := by decide +kernel
theorem dX9_hidden_74 : decode cX9_hidden 74 = .ok (.aload_n 0, 1) := by decide +kernel
theorem dX9_hidden_75 : decode cX9_hidden 75 = .ok (.iload_n 1, 1) := by decide +kernel
theorem dX9_hidden_76 : decode cX9_hidden 76 = .ok (.iconst 2, 1) := by decide +kernel
theorem dX9_hidden_77 : decode cX9_hidden 77 = .ok (.invokevirtual 67, 3) := by decide +kernel
theorem dX9_hidden_80 : decode cX9_hidden 80 = .ok (.iload_n 2, 1) := by decide +kernel
theorem dX9_hidden_81 : decode cX9_hidden 81 = .ok (.iadd, 1) := by decide +kernel
theorem dX9_hidden_82 : decode cX9_hidden 82 = .ok (.aload_n 0, 1) := by decide +kernel
theorem dX9_hidden_83 : decode cX9_hidden 83 = .ok (.iload_n 1, 1) := by decide +kernel
theorem dX9_hidden_84 : decode cX9_hidden 84 = .ok (.iconst 1, 1) := by decide +kernel
theorem dX9_hidden_85 : decode cX9_hidden 85 = .ok (.invokevirtual 67, 3) := by decide +kernel
theorem dX9_hidden_88 : decode cX9_hidden 88 = .ok (.iload_n 2, 1) := by decide +kernel
theorem dX9_hidden_89 : decode cX9_hidden 89 = .ok (.iadd, 1) := by decide +kernel
theorem dX9_hidden_90 : decode cX9_hidden 90 = .ok (.invokestatic 71, 3) := by decide +kernel
theorem dX9_hidden_93 : decode cX9_hidden 93 = .ok (.invokevirtual 118, 3) := by decide +kernel
theorem dX9_hidden_96 : decode cX9_hidden 96 = .ok (.ifCond .eq 9, 3) := by decide +kernel
theorem dX9_hidden_99 : decode cX9_hidden 99 = .ok (.iinc 2 (-1), 3) := by decide +kernel
theorem dX9_hidden_102 : decode cX9_hidden 102 = .ok (.goto (-29), 3) := by decide +kernel
theorem dX9_hidden_105 : decode cX9_hidden 105 = .ok (.iload_n 2, 1) := by decide +kernel
theorem dX9_hidden_106 : decode cX9_hidden 106 = .ok (.ireturn, 1) := by decide +kernel
theorem dX9_hiddenAgain_0 : decode cX9_hiddenAgain 0 = .ok (.aload_n 0, 1) := by decide +kernel
theorem dX9_hiddenAgain_1 : decode cX9_hiddenAgain 1 = .ok (.iload_n 1, 1) := by decide +kernel
theorem dX9_hiddenAgain_2 : decode cX9_hiddenAgain 2 = .ok (.invokevirtual 171, 3) := by decide +kernel
theorem dX9_hiddenAgain_5 : decode cX9_hiddenAgain 5 = .ok (.ireturn, 1) := by decide +kernel
theorem dX9_wouldCatch_0 : decode cX9_wouldCatch 0 = .ok (.aload_n 0, 1) := by decide +kernel
theorem dX9_wouldCatch_1 : decode cX9_wouldCatch 1 = .ok (.iload_n 1, 1) := by decide +kernel
theorem dX9_wouldCatch_2 : decode cX9_wouldCatch 2 = .ok (.iconst 1, 1) := by decide +kernel
theorem dX9_wouldCatch_3 : decode cX9_wouldCatch 3 = .ok (.bipush 9, 2) := by decide +kernel
theorem dX9_wouldCatch_5 : decode cX9_wouldCatch 5 = .ok (.invokestatic 63, 3) := by decide +kernel
theorem dX9_wouldCatch_8 : decode cX9_wouldCatch 8 = .ok (.ifCond .eq 7, 3) := by decide +kernel
theorem dX9_wouldCatch_11 : decode cX9_wouldCatch 11 = .ok (.iconst 0, 1) := by decide +kernel
theorem dX9_wouldCatch_12 : decode cX9_wouldCatch 12 = .ok (.goto 4, 3) := by decide +kernel
theorem dX9_wouldCatch_15 : decode cX9_wouldCatch 15 = .ok (.iconst 1, 1) := by decide +kernel
theorem dX9_wouldCatch_16 : decode cX9_wouldCatch 16 = .ok (.putfield 35, 3) := by decide +kernel
theorem dX9_wouldCatch_19 : decode cX9_wouldCatch 19 = .ok (.aload_n 0, 1) := by decide +kernel
theorem dX9_wouldCatch_20 : decode cX9_wouldCatch 20 = .ok (.getfield 35, 3) := by decide +kernel
theorem dX9_wouldCatch_23 : decode cX9_wouldCatch 23 = .ok (.ifCond .le 7, 3) := by decide +kernel
theorem dX9_wouldCatch_26 : decode cX9_wouldCatch 26 = .ok (.iconst 0, 1) := by decide +kernel
theorem dX9_wouldCatch_27 : decode cX9_wouldCatch 27 = .ok (.goto 30, 3) := by decide +kernel
theorem dX9_wouldCatch_30 : decode cX9_wouldCatch 30 = .ok (.aload_n 0, 1) := by decide +kernel
theorem dX9_wouldCatch_31 : decode cX9_wouldCatch 31 = .ok (.iconst 0, 1) := by decide +kernel
theorem dX9_wouldCatch_32 : decode cX9_wouldCatch 32 = .ok (.iload_n 1, 1) := by decide +kernel
theorem dX9_wouldCatch_33 : decode cX9_wouldCatch 33 = .ok (.invokevirtual 95, 3) := by decide +kernel
theorem dX9_wouldCatch_36 : decode cX9_wouldCatch 36 = .ok (.aload_n 0, 1) := by decide +kernel
theorem dX9_wouldCatch_37 : decode cX9_wouldCatch 37 = .ok (.iconst 1, 1) := by decide +kernel
theorem dX9_wouldCatch_38 : decode cX9_wouldCatch 38 = .ok (.iload_n 1, 1) := by decide +kernel
theorem dX9_wouldCatch_39 : decode cX9_wouldCatch 39 = .ok (.invokevirtual 95, 3) := by decide +kernel
theorem dX9_wouldCatch_42 : decode cX9_wouldCatch 42 = .ok (.iadd, 1) := by decide +kernel
theorem dX9_wouldCatch_43 : decode cX9_wouldCatch 43 = .ok (.aload_n 0, 1) := by decide +kernel
theorem dX9_wouldCatch_44 : decode cX9_wouldCatch 44 = .ok (.iconst 2, 1) := by decide +kernel
theorem dX9_wouldCatch_45 : decode cX9_wouldCatch 45 = .ok (.iload_n 1, 1) := by decide +kernel
theorem dX9_wouldCatch_46 : decode cX9_wouldCatch 46 = .ok (.invokevirtual 95, 3) := by decide +kernel
theorem dX9_wouldCatch_49 : decode cX9_wouldCatch 49 = .ok (.iadd, 1) := by decide +kernel
theorem dX9_wouldCatch_50 : decode cX9_wouldCatch 50 = .ok (.aload_n 0, 1) := by decide +kernel
theorem dX9_wouldCatch_51 : decode cX9_wouldCatch 51 = .ok (.iconst 3, 1) := by decide +kernel
theorem dX9_wouldCatch_52 : decode cX9_wouldCatch 52 = .ok (.iload_n 1, 1) := by decide +kernel
theorem dX9_wouldCatch_53 : decode cX9_wouldCatch 53 = .ok (.invokevirtual 95, 3) := by decide +kernel
theorem dX9_wouldCatch_56 : decode cX9_wouldCatch 56 = .ok (.iadd, 1) := by decide +kernel
theorem dX9_wouldCatch_57 : decode cX9_wouldCatch 57 = .ok (.ireturn, 1) := by decide +kernel
theorem dX9_wouldLose_0 : decode cX9_wouldLose 0 = .ok (.aload_n 0, 1) := by decide +kernel
theorem dX9_wouldLose_1 : decode cX9_wouldLose 1 = .ok (.iload_n 1, 1) := by decide +kernel
theorem dX9_wouldLose_2 : decode cX9_wouldLose 2 = .ok (.invokevirtual 174, 3) := by decide +kernel
theorem dX9_wouldLose_5 : decode cX9_wouldLose 5 = .ok (.istore_n 2, 1) := by decide +kernel
theorem dX9_wouldLose_6 : decode cX9_wouldLose 6 = .ok (.aload_n 0, 1) := by decide +kernel
theorem dX9_wouldLose_7 : decode cX9_wouldLose 7 = .ok (.getfield 35, 3) := by decide +kernel
theorem dX9_wouldLose_10 : decode cX9_wouldLose 10 = .ok (.ifCond .le 7, 3) := by decide +kernel
theorem dX9_wouldLose_13 : decode cX9_wouldLose 13 = .ok (.iconst 0, 1) := by decide +kernel
theorem dX9_wouldLose_14 : decode cX9_wouldLose 14 = .ok (.goto 9, 3) := by decide +kernel
theorem dX9_wouldLose_17 : decode cX9_wouldLose 17 = .ok (.bipush 10, 2) := by decide +kernel
theorem dX9_wouldLose_19 : decode cX9_wouldLose 19 = .ok (.iload_n 1, 1) := by decide +kernel
theorem dX9_wouldLose_20 : decode cX9_wouldLose 20 = .ok (.imul, 1) := by decide +kernel
theorem dX9_wouldLose_21 : decode cX9_wouldLose 21 = .ok (.iload_n 2, 1) := by decide +kernel
theorem dX9_wouldLose_22 : decode cX9_wouldLose 22 = .ok (.isub, 1) := by decide +kernel
theorem dX9_wouldLose_23 : decode cX9_wouldLose 23 = .ok (.ireturn, 1) := by decide +kernel
theorem dX9_vintage_0 : decode cX9_vintage 0 = .ok (.aload_n 0, 1) := by decide +kernel
theorem dX9_vintage_1 : decode cX9_vintage 1 = .ok (.iload_n 1, 1) := by decide +kernel
theorem dX9_vintage_2 : decode cX9_vintage 2 = .ok (.iconst 0, 1) := by decide +kernel
theorem dX9_vintage_3 : decode cX9_vintage 3 = .ok (.aload_n 0, 1) := by decide +kernel
theorem dX9_vintage_4 : decode cX9_vintage 4 = .ok (.getfield 7, 3) := by decide +kernel
theorem dX9_vintage_7 : decode cX9_vintage 7 = .ok (.iconst 4, 1) := by decide +kernel
theorem dX9_vintage_8 : decode cX9_vintage 8 = .ok (.iaload, 1) := by decide +kernel
theorem dX9_vintage_9 : decode cX9_vintage 9 = .ok (.iconst 1, 1) := by decide +kernel
theorem dX9_vintage_10 : decode cX9_vintage 10 = .ok (.isub, 1) := by decide +kernel
theorem dX9_vintage_11 : decode cX9_vintage 11 = .ok (.invokestatic 63, 3) := by decide +kernel
theorem dX9_vintage_14 : decode cX9_vintage 14 = .ok (.ifCond .eq 7, 3) := by decide +kernel
theorem dX9_vintage_17 : decode cX9_vintage 17 = .ok (.iconst 0, 1) := by decide +kernel
theorem dX9_vintage_18 : decode cX9_vintage 18 = .ok (.goto 4, 3) := by decide +kernel
theorem dX9_vintage_21 : decode cX9_vintage 21 = .ok (.iconst 1, 1) := by decide +kernel
theorem dX9_vintage_22 : decode cX9_vintage 22 = .ok (.putfield 35, 3) := by decide +kernel
theorem dX9_vintage_25 : decode cX9_vintage 25 = .ok (.aload_n 0, 1) := by decide +kernel
theorem dX9_vintage_26 : decode cX9_vintage 26 = .ok (.getfield 35, 3) := by decide +kernel
theorem dX9_vintage_29 : decode cX9_vintage 29 = .ok (.ifCond .le 5, 3) := by decide +kernel
theorem dX9_vintage_32 : decode cX9_vintage 32 = .ok (.iconst 0, 1) := by decide +kernel
theorem dX9_vintage_33 : decode cX9_vintage 33 = .ok (.ireturn, 1) := by decide +kernel
theorem dX9_vintage_34 : decode cX9_vintage 34 = .ok (.iconst 0, 1) := by decide +kernel
theorem dX9_vintage_35 : decode cX9_vintage 35 = .ok (.istore_n 2, 1) := by decide +kernel
theorem dX9_vintage_36 : decode cX9_vintage 36 = .ok (.iconst 0, 1) := by decide +kernel
theorem dX9_vintage_37 : decode cX9_vintage 37 = .ok (.istore_n 3, 1) := by decide +kernel
theorem dX9_vintage_38 : decode cX9_vintage 38 = .ok (.iload_n 3, 1) := by decide +kernel
theorem dX9_vintage_39 : decode cX9_vintage 39 = .ok (.aload_n 0, 1) := by decide +kernel
theorem dX9_vintage_40 : decode cX9_vintage 40 = .ok (.getfield 7, 3) := by decide +kernel
theorem dX9_vintage_43 : decode cX9_vintage 43 = .ok (.iconst 0, 1) := by decide +kernel
theorem dX9_vintage_44 : decode cX9_vintage 44 = .ok (.iaload, 1) := by decide +kernel
theorem dX9_vintage_45 : decode cX9_vintage 45 = .ok (.if_icmp .ge 32, 3) := by decide +kernel
theorem dX9_vintage_48 : decode cX9_vintage 48 = .ok (.iload_n 2, 1) := by decide +kernel
theorem dX9_vintage_49 : decode cX9_vintage 49 = .ok (.aload_n 0, 1) := by decide +kernel
theorem dX9_vintage_50 : decode cX9_vintage 50 = .ok (.iload_n 3, 1) := by decide +kernel
theorem dX9_vintage_51 : decode cX9_vintage 51 = .ok (.iconst 3, 1) := by decide +kernel
theorem dX9_vintage_52 : decode cX9_vintage 52 = .ok (.invokevirtual 67, 3) := by decide +kernel
theorem dX9_vintage_55 : decode cX9_vintage 55 = .ok (.iload_n 1, 1) := by decide +kernel
theorem dX9_vintage_56 : decode cX9_vintage 56 = .ok (.if_icmp .ne 12, 3) := by decide +kernel
theorem dX9_vintage_59 : decode cX9_vintage 59 = .ok (.aload_n 0, 1) := by decide +kernel
theorem dX9_vintage_60 : decode cX9_vintage 60 = .ok (.iload_n 3, 1) := by decide +kernel
theorem dX9_vintage_61 : decode cX9_vintage 61 = .ok (.iconst 1, 1) := by decide +kernel
theorem dX9_vintage_62 : decode cX9_vintage 62 = .ok (.invokevirtual 67, 3) := by decide +kernel
theorem dX9_vintage_65 : decode cX9_vintage 65 = .ok (.goto 4, 3) := by decide +kernel
theorem dX9_vintage_68 : decode cX9_vintage 68 = .ok (.iconst 0, 1) := by decide +kernel
theorem dX9_vintage_69 : decode cX9_vintage 69 = .ok (.iadd, 1) := by decide +kernel
theorem dX9_vintage_70 : decode cX9_vintage 70 = .ok (.istore_n 2, 1) := by decide +kernel
theorem dX9_vintage_71 : decode cX9_vintage 71 = .ok (.iinc 3 1, 3) := by decide +kernel
theorem dX9_vintage_74 : decode cX9_vintage 74 = .ok (.goto (-36), 3) := by decide +kernel
theorem dX9_vintage_77 : decode cX9_vintage 77 = .ok (.iload_n 2, 1) := by decide +kernel
theorem dX9_vintage_78 : decode cX9_vintage 78 = .ok (.ireturn, 1) := by decide +kernel
theorem dX9_stormOf_0 : decode cX9_stormOf 0 = .ok (.aload_n 0, 1) := by decide +kernel
theorem dX9_stormOf_1 : decode cX9_stormOf 1 = .ok (.iload_n 1, 1) := by decide +kernel
theorem dX9_stormOf_2 : decode cX9_stormOf 2 = .ok (.ifCond .lt 26, 3) := by decide +kernel
theorem dX9_stormOf_5 : decode cX9_stormOf 5 = .ok (.iload_n 1, 1) := by decide +kernel
theorem dX9_stormOf_6 : decode cX9_stormOf 6 = .ok (.aload_n 0, 1) := by decide +kernel
theorem dX9_stormOf_7 : decode cX9_stormOf 7 = .ok (.getfield 7, 3) := by decide +kernel
theorem dX9_stormOf_10 : decode cX9_stormOf 10 = .ok (.iconst 4, 1) := by decide +kernel
theorem dX9_stormOf_11 : decode cX9_stormOf 11 = .ok (.iaload, 1) := by decide +kernel
theorem dX9_stormOf_12 : decode cX9_stormOf 12 = .ok (.if_icmp .ge 16, 3) := by decide +kernel
theorem dX9_stormOf_15 : decode cX9_stormOf 15 = .ok (.iload_n 1, 1) := by decide +kernel
theorem dX9_stormOf_16 : decode cX9_stormOf 16 = .ok (.aload_n 0, 1) := by decide +kernel
theorem dX9_stormOf_17 : decode cX9_stormOf 17 = .ok (.getfield 7, 3) := by decide +kernel
theorem dX9_stormOf_20 : decode cX9_stormOf 20 = .ok (.iconst 4, 1) := by decide +kernel
theorem dX9_stormOf_21 : decode cX9_stormOf 21 = .ok (.iaload, 1) := by decide +kernel
theorem dX9_stormOf_22 : decode cX9_stormOf 22 = .ok (.bipush 12, 2) := by decide +kernel
theorem dX9_stormOf_24 : decode cX9_stormOf 24 = .ok (.isub, 1) := by decide +kernel
theorem dX9_stormOf_25 : decode cX9_stormOf 25 = .ok (.if_icmp .ge 7, 3) := by decide +kernel
theorem dX9_stormOf_28 : decode cX9_stormOf 28 = .ok (.iconst 1, 1) := by decide +kernel
theorem dX9_stormOf_29 : decode cX9_stormOf 29 = .ok (.goto 17, 3) := by decide +kernel
theorem dX9_stormOf_32 : decode cX9_stormOf 32 = .ok (.iload_n 2, 1) := by decide +kernel
theorem dX9_stormOf_33 : decode cX9_stormOf 33 = .ok (.iconst 0, 1) := by decide +kernel
theorem dX9_stormOf_34 : decode cX9_stormOf 34 = .ok (.iconst 2, 1) := by decide +kernel
theorem dX9_stormOf_35 : decode cX9_stormOf 35 = .ok (.invokestatic 63, 3) := by decide +kernel
theorem dX9_stormOf_38 : decode cX9_stormOf 38 = .ok (.ifCond .eq 7, 3) := by decide +kernel
theorem dX9_stormOf_41 : decode cX9_stormOf 41 = .ok (.iconst 0, 1) := by decide +kernel
theorem dX9_stormOf_42 : decode cX9_stormOf 42 = .ok (.goto 4, 3) := by decide +kernel
theorem dX9_stormOf_45 : decode cX9_stormOf 45 = .ok (.iconst 2, 1) := by decide +kernel
theorem dX9_stormOf_46 : decode cX9_stormOf 46 = .ok (.putfield 35, 3) := by decide +kernel
theorem dX9_stormOf_49 : decode cX9_stormOf 49 = .ok (.aload_n 0, 1) := by decide +kernel
theorem dX9_stormOf_50 : decode cX9_stormOf 50 = .ok (.getfield 35, 3) := by decide +kernel
theorem dX9_stormOf_53 : decode cX9_stormOf 53 = .ok (.ifCond .le 7, 3) := by decide +kernel
theorem dX9_stormOf_56 : decode cX9_stormOf 56 = .ok (.iconst 0, 1) := by decide +kernel
theorem dX9_stormOf_57 : decode cX9_stormOf 57 = .ok (.goto 19, 3) := by decide +kernel
theorem dX9_stormOf_60 : decode cX9_stormOf 60 = .ok (.aload_n 0, 1) := by decide +kernel
theorem dX9_stormOf_61 : decode cX9_stormOf 61 = .ok (.getfield 7, 3) := by decide +kernel
theorem dX9_stormOf_64 : decode cX9_stormOf 64 = .ok (.bipush 71, 2) := by decide +kernel
theorem dX9_stormOf_66 : decode cX9_stormOf 66 = .ok (.iconst 3, 1) := by decide +kernel
theorem dX9_stormOf_67 : decode cX9_stormOf 67 = .ok (.iload_n 1, 1) := by decide +kernel
theorem dX9_stormOf_68 : decode cX9_stormOf 68 = .ok (.bipush 12, 2) := by decide +kernel
theorem dX9_stormOf_70 : decode cX9_stormOf 70 = .ok (.irem, 1) := by decide +kernel
theorem dX9_stormOf_71 : decode cX9_stormOf 71 = .ok (.imul, 1) := by decide +kernel
theorem dX9_stormOf_72 : decode cX9_stormOf 72 = .ok (.iadd, 1) := by decide +kernel
theorem dX9_stormOf_73 : decode cX9_stormOf 73 = .ok (.iload_n 2, 1) := by decide +kernel
theorem dX9_stormOf_74 : decode cX9_stormOf 74 = .ok (.iadd, 1) := by decide +kernel
theorem dX9_stormOf_75 : decode cX9_stormOf 75 = .ok (.iaload, 1) := by decide +kernel
theorem dX9_stormOf_76 : decode cX9_stormOf 76 = .ok (.ireturn, 1) := by decide +kernel
theorem dX9_canPour_0 : decode cX9_canPour 0 = .ok (.aload_n 0, 1) := by decide +kernel
theorem dX9_canPour_1 : decode cX9_canPour 1 = .ok (.aload_n 0, 1) := by decide +kernel
theorem dX9_canPour_2 : decode cX9_canPour 2 = .ok (.iload_n 1, 1) := by decide +kernel
theorem dX9_canPour_3 : decode cX9_canPour 3 = .ok (.invokevirtual 105, 3) := by decide +kernel
theorem dX9_canPour_6 : decode cX9_canPour 6 = .ok (.ifCond .eq 15, 3) := by decide +kernel
theorem dX9_canPour_9 : decode cX9_canPour 9 = .ok (.aload_n 0, 1) := by decide +kernel
theorem dX9_canPour_10 : decode cX9_canPour 10 = .ok (.iload_n 2, 1) := by decide +kernel
theorem dX9_canPour_11 : decode cX9_canPour 11 = .ok (.invokevirtual 105, 3) := by decide +kernel
theorem dX9_canPour_14 : decode cX9_canPour 14 = .ok (.ifCond .eq 7, 3) := by decide +kernel
theorem dX9_canPour_17 : decode cX9_canPour 17 = .ok (.iconst 0, 1) := by decide +kernel
theorem dX9_canPour_18 : decode cX9_canPour 18 = .ok (.goto 4, 3) := by decide +kernel
theorem dX9_canPour_21 : decode cX9_canPour 21 = .ok (.iconst 1, 1) := by decide +kernel
theorem dX9_canPour_22 : decode cX9_canPour 22 = .ok (.putfield 35, 3) := by decide +kernel
theorem dX9_canPour_25 : decode cX9_canPour 25 = .ok (.aload_n 0, 1) := by decide +kernel
theorem dX9_canPour_26 : decode cX9_canPour 26 = .ok (.getfield 35, 3) := by decide +kernel
theorem dX9_canPour_29 : decode cX9_canPour 29 = .ok (.ifCond .gt 17, 3) := by decide +kernel
theorem dX9_canPour_32 : decode cX9_canPour 32 = .ok (.iload_n 1, 1) := by decide +kernel
theorem dX9_canPour_33 : decode cX9_canPour 33 = .ok (.iload_n 2, 1) := by decide +kernel
theorem dX9_canPour_34 : decode cX9_canPour 34 = .ok (.if_icmp .eq 12, 3) := by decide +kernel
theorem dX9_canPour_37 : decode cX9_canPour 37 = .ok (.aload_n 0, 1) := by decide +kernel
theorem dX9_canPour_38 : decode cX9_canPour 38 = .ok (.iload_n 1, 1) := by decide +kernel
theorem dX9_canPour_39 : decode cX9_canPour 39 = .ok (.iconst 1, 1) := by decide +kernel
theorem dX9_canPour_40 : decode cX9_canPour 40 = .ok (.invokevirtual 67, 3) := by decide +kernel
theorem dX9_canPour_43 : decode cX9_canPour 43 = .ok (.ifCond .ne 5, 3) := by decide +kernel
theorem dX9_canPour_46 : decode cX9_canPour 46 = .ok (.iconst 0, 1) := by decide +kernel
theorem dX9_canPour_47 : decode cX9_canPour 47 = .ok (.ireturn, 1) := by decide +kernel
theorem dX9_canPour_48 : decode cX9_canPour 48 = .ok (.aload_n 0, 1) := by decide +kernel
theorem dX9_canPour_49 : decode cX9_canPour 49 = .ok (.iload_n 2, 1) := by decide +kernel
theorem dX9_canPour_50 : decode cX9_canPour 50 = .ok (.iconst 1, 1) := by decide +kernel
theorem dX9_canPour_51 : decode cX9_canPour 51 = .ok (.invokevirtual 67, 3) := by decide +kernel
theorem dX9_canPour_54 : decode cX9_canPour 54 = .ok (.ifCond .eq 29, 3) := by decide +kernel
theorem dX9_canPour_57 : decode cX9_canPour 57 = .ok (.aload_n 0, 1) := by decide +kernel
theorem dX9_canPour_58 : decode cX9_canPour 58 = .ok (.iload_n 2, 1) := by decide +kernel
theorem dX9_canPour_59 : decode cX9_canPour 59 = .ok (.iconst 3, 1) := by decide +kernel
theorem dX9_canPour_60 : decode cX9_canPour 60 = .ok (.invokevirtual 67, 3) := by decide +kernel
theorem dX9_canPour_63 : decode cX9_canPour 63 = .ok (.aload_n 0, 1) := by decide +kernel
theorem dX9_canPour_64 : decode cX9_canPour 64 = .ok (.iload_n 1, 1) := by decide +kernel
theorem dX9_canPour_65 : decode cX9_canPour 65 = .ok (.iconst 3, 1) := by decide +kernel
theorem dX9_canPour_66 : decode cX9_canPour 66 = .ok (.invokevirtual 67, 3) := by decide +kernel
theorem dX9_canPour_69 : decode cX9_canPour 69 = .ok (.if_icmp .ne 18, 3) := by decide +kernel
theorem dX9_canPour_72 : decode cX9_canPour 72 = .ok (.aload_n 0, 1) := by decide +kernel
theorem dX9_canPour_73 : decode cX9_canPour 73 = .ok (.iload_n 2, 1) := by decide +kernel
theorem dX9_canPour_74 : decode cX9_canPour 74 = .ok (.iconst 1, 1) := by decide +kernel
theorem dX9_canPour_75 : decode cX9_canPour 75 = .ok (.invokevirtual 67, 3) := by decide +kernel
theorem dX9_canPour_78 : decode cX9_canPour 78 = .ok (.bipush 20, 2) := by decide +kernel
theorem dX9_canPour_80 : decode cX9_canPour 80 = .ok (.if_icmp .ge 7, 3) := by decide +kernel
theorem dX9_canPour_83 : decode cX9_canPour 83 = .ok (.iconst 1, 1) := by decide +kernel
theorem dX9_canPour_84 : decode cX9_canPour 84 = .ok (.goto 4, 3) := by decide +kernel
theorem dX9_canPour_87 : decode cX9_canPour 87 = .ok (.iconst 0, 1) := by decide +kernel
theorem dX9_canPour_88 : decode cX9_canPour 88 = .ok (.ireturn, 1) := by decide +kernel
theorem dX9_measureOf_0 : decode cX9_measureOf 0 = .ok (.iload_n 2, 1) := by decide +kernel
theorem dX9_measureOf_1 : decode cX9_measureOf 1 = .ok (.ifCond .ne 12, 3) := by decide +kernel
theorem dX9_measureOf_4 : decode cX9_measureOf 4 = .ok (.aload_n 0, 1) := by decide +kernel
theorem dX9_measureOf_5 : decode cX9_measureOf 5 = .ok (.iload_n 1, 1) := by decide +kernel
theorem dX9_measureOf_6 : decode cX9_measureOf 6 = .ok (.iconst 1, 1) := by decide +kernel
theorem dX9_measureOf_7 : decode cX9_measureOf 7 = .ok (.invokevirtual 67, 3) := by decide +kernel
theorem dX9_measureOf_10 : decode cX9_measureOf 10 = .ok (.goto 35, 3) := by decide +kernel
theorem dX9_measureOf_13 : decode cX9_measureOf 13 = .ok (.iload_n 2, 1) := by decide +kernel
theorem dX9_measureOf_14 : decode cX9_measureOf 14 = .ok (.iconst 1, 1) := by decide +kernel
theorem dX9_measureOf_15 : decode cX9_measureOf 15 = .ok (.if_icmp .ne 12, 3) := by decide +kernel
theorem dX9_measureOf_18 : decode cX9_measureOf 18 = .ok (.aload_n 0, 1) := by decide +kernel
theorem dX9_measureOf_19 : decode cX9_measureOf 19 = .ok (.iload_n 1, 1) := by decide +kernel
theorem dX9_measureOf_20 : decode cX9_measureOf 20 = .ok (.iconst 0, 1) := by decide +kernel
theorem dX9_measureOf_21 : decode cX9_measureOf 21 = .ok (.invokevirtual 121, 3) := by decide +kernel
theorem dX9_measureOf_24 : decode cX9_measureOf 24 = .ok (.goto 21, 3) := by decide +kernel
theorem dX9_measureOf_27 : decode cX9_measureOf 27 = .ok (.iload_n 2, 1) := by decide +kernel
theorem dX9_measureOf_28 : decode cX9_measureOf 28 = .ok (.iconst 2, 1) := by decide +kernel
theorem dX9_measureOf_29 : decode cX9_measureOf 29 = .ok (.if_icmp .ne 11, 3) := by decide +kernel
theorem dX9_measureOf_32 : decode cX9_measureOf 32 = .ok (.aload_n 0, 1) := by decide +kernel
theorem dX9_measureOf_33 : decode cX9_measureOf 33 = .ok (.iload_n 1, 1) := by decide +kernel
theorem dX9_measureOf_34 : decode cX9_measureOf 34 = .ok (.invokevirtual 74, 3) := by decide +kernel
theorem dX9_measureOf_37 : decode cX9_measureOf 37 = .ok (.goto 8, 3) := by decide +kernel
theorem dX9_measureOf_40 : decode cX9_measureOf 40 = .ok (.aload_n 0, 1) := by decide +kernel
theorem dX9_measureOf_41 : decode cX9_measureOf 41 = .ok (.iload_n 1, 1) := by decide +kernel
theorem dX9_measureOf_42 : decode cX9_measureOf 42 = .ok (.invokevirtual 77, 3) := by decide +kernel
theorem dX9_measureOf_45 : decode cX9_measureOf 45 = .ok (.ireturn, 1) := by decide +kernel
theorem dX9_ranked_0 : decode cX9_ranked 0 = .ok (.aload_n 0, 1) := by decide +kernel
theorem dX9_ranked_1 : decode cX9_ranked 1 = .ok (.iload_n 1, 1) := by decide +kernel
theorem dX9_ranked_2 : decode cX9_ranked 2 = .ok (.iconst 0, 1) := by decide +kernel
theorem dX9_ranked_3 : decode cX9_ranked 3 = .ok (.iconst 3, 1) := by decide +kernel
theorem dX9_ranked_4 : decode cX9_ranked 4 = .ok (.invokestatic 63, 3) := by decide +kernel
theorem dX9_ranked_7 : decode cX9_ranked 7 = .ok (.ifCond .eq 7, 3) := by decide +kernel
theorem dX9_ranked_10 : decode cX9_ranked 10 = .ok (.iconst 0, 1) := by decide +kernel
theorem dX9_ranked_11 : decode cX9_ranked 11 = .ok (.goto 4, 3) := by decide +kernel
theorem dX9_ranked_14 : decode cX9_ranked 14 = .ok (.iconst 1, 1) := by decide +kernel
theorem dX9_ranked_15 : decode cX9_ranked 15 = .ok (.putfield 35, 3) := by decide +kernel
theorem dX9_ranked_18 : decode cX9_ranked 18 = .ok (.aload_n 0, 1) := by decide +kernel
theorem dX9_ranked_19 : decode cX9_ranked 19 = .ok (.getfield 35, 3) := by decide +kernel
theorem dX9_ranked_22 : decode cX9_ranked 22 = .ok (.ifCond .le 5, 3) := by decide +kernel
theorem dX9_ranked_25 : decode cX9_ranked 25 = .ok (.iconst 0, 1) := by decide +kernel
theorem dX9_ranked_26 : decode cX9_ranked 26 = .ok (.ireturn, 1) := by decide +kernel
theorem dX9_ranked_27 : decode cX9_ranked 27 = .ok (.iconst 0, 1) := by decide +kernel
theorem dX9_ranked_28 : decode cX9_ranked 28 = .ok (.istore_n 3, 1) := by decide +kernel
theorem dX9_ranked_29 : decode cX9_ranked 29 = .ok (.iload_n 3, 1) := by decide +kernel
theorem dX9_ranked_30 : decode cX9_ranked 30 = .ok (.aload_n 0, 1) := by decide +kernel
theorem dX9_ranked_31 : decode cX9_ranked 31 = .ok (.getfield 7, 3) := by decide +kernel
theorem dX9_ranked_34 : decode cX9_ranked 34 = .ok (.iconst 0, 1) := by decide +kernel
theorem dX9_ranked_35 : decode cX9_ranked 35 = .ok (.iaload, 1) := by decide +kernel
theorem dX9_ranked_36 : decode cX9_ranked 36 = .ok (.if_icmp .ge 88, 3) := by decide +kernel
theorem dX9_ranked_39 : decode cX9_ranked 39 = .ok (.iconst 0, 1) := by decide +kernel
theorem dX9_ranked_40 : decode cX9_ranked 40 = .ok (.istore 4, 2) := by decide +kernel
theorem dX9_ranked_42 : decode cX9_ranked 42 = .ok (.aload_n 0, 1) := by decide +kernel
theorem dX9_ranked_43 : decode cX9_ranked 43 = .ok (.iload_n 3, 1) := by decide +kernel
theorem dX9_ranked_44 : decode cX9_ranked 44 = .ok (.iload_n 1, 1) := by decide +kernel
theorem dX9_ranked_45 : decode cX9_ranked 45 = .ok (.invokevirtual 177, 3) := by decide +kernel
theorem dX9_ranked_48 : decode cX9_ranked 48 = .ok (.istore 5, 2) := by decide +kernel
theorem dX9_ranked_50 : decode cX9_ranked 50 = .ok (.iconst 0, 1) := by decide +kernel
theorem dX9_ranked_51 : decode cX9_ranked 51 = .ok (.istore 6, 2) := by decide +kernel
theorem dX9_ranked_53 : decode cX9_ranked 53 = .ok (.iload 6, 2) := by decide +kernel
theorem dX9_ranked_55 : decode cX9_ranked 55 = .ok (.aload_n 0, 1) := by decide +kernel
theorem dX9_ranked_56 : decode cX9_ranked 56 = .ok (.getfield 7, 3) := by decide +kernel
theorem dX9_ranked_59 : decode cX9_ranked 59 = .ok (.iconst 0, 1) := by decide +kernel
theorem dX9_ranked_60 : decode cX9_ranked 60 = .ok (.iaload, 1) := by decide +kernel
theorem dX9_ranked_61 : decode cX9_ranked 61 = .ok (.if_icmp .ge 49, 3) := by decide +kernel
theorem dX9_ranked_64 : decode cX9_ranked 64 = .ok (.iload 4, 2) := by decide +kernel
theorem dX9_ranked_66 : decode cX9_ranked 66 = .ok (.aload_n 0, 1) := by decide +kernel
theorem dX9_ranked_67 : decode cX9_ranked 67 = .ok (.iload 6, 2) := by decide +kernel
theorem dX9_ranked_69 : decode cX9_ranked 69 = .ok (.iload_n 1, 1) := by decide +kernel
theorem dX9_ranked_70 : decode cX9_ranked 70 = .ok (.invokevirtual 177, 3) := by decide +kernel
theorem dX9_ranked_73 : decode cX9_ranked 73 = .ok (.iload 5, 2) := by decide +kernel
theorem dX9_ranked_75 : decode cX9_ranked 75 = .ok (.if_icmp .gt 21, 3) := by decide +kernel
theorem dX9_ranked_78 : decode cX9_ranked 78 = .ok (.aload_n 0, 1) := by decide +kernel
theorem dX9_ranked_79 : decode cX9_ranked 79 = .ok (.iload 6, 2) := by decide +kernel
theorem dX9_ranked_81 : decode cX9_ranked 81 = .ok (.iload_n 1, 1) := by decide +kernel
theorem dX9_ranked_82 : decode cX9_ranked 82 = .ok (.invokevirtual 177, 3) := by decide +kernel
theorem dX9_ranked_85 : decode cX9_ranked 85 = .ok (.iload 5, 2) := by decide +kernel
theorem dX9_ranked_87 : decode cX9_ranked 87 = .ok (.if_icmp .ne 13, 3) := by decide +kernel
theorem dX9_ranked_90 : decode cX9_ranked 90 = .ok (.iload 6, 2) := by decide +kernel
theorem dX9_ranked_92 : decode cX9_ranked 92 = .ok (.iload_n 3, 1) := by decide +kernel
theorem dX9_ranked_93 : decode cX9_ranked 93 = .ok (.if_icmp .ge 7, 3) := by decide +kernel
theorem dX9_ranked_96 : decode cX9_ranked 96 = .ok (.iconst 1, 1) := by decide +kernel
theorem dX9_ranked_97 : decode cX9_ranked 97 = .ok (.goto 4, 3) := by decide +kernel
theorem dX9_ranked_100 : decode cX9_ranked 100 = .ok (.iconst 0, 1) := by decide +kernel
theorem dX9_ranked_101 : decode cX9_ranked 101 = .ok (.iadd, 1) := by decide +kernel
theorem dX9_ranked_102 : decode cX9_ranked 102 = .ok (.istore 4, 2) := by decide +kernel
theorem dX9_ranked_104 : decode cX9_ranked 104 = .ok (.iinc 6 1, 3) := by decide +kernel
theorem dX9_ranked_107 : decode cX9_ranked 107 = .ok (.goto (-54), 3) := by decide +kernel
theorem dX9_ranked_110 : decode cX9_ranked 110 = .ok (.iload 4, 2) := by decide +kernel
theorem dX9_ranked_112 : decode cX9_ranked 112 = .ok (.iload_n 2, 1) := by decide +kernel
theorem dX9_ranked_113 : decode cX9_ranked 113 = .ok (.if_icmp .ne 5, 3) := by decide +kernel
theorem dX9_ranked_116 : decode cX9_ranked 116 = .ok (.iload_n 3, 1) := by decide +kernel
theorem dX9_ranked_117 : decode cX9_ranked 117 = .ok (.ireturn, 1) := by decide +kernel
theorem dX9_ranked_118 : decode cX9_ranked 118 = .ok (.iinc 3 1, 3) := by decide +kernel
theorem dX9_ranked_121 : decode cX9_ranked 121 = .ok (.goto (-92), 3) := by decide +kernel
theorem dX9_ranked_124 : decode cX9_ranked 124 = .ok (.aload_n 0, 1) := by decide +kernel
theorem dX9_ranked_125 : decode cX9_ranked 125 = .ok (.iconst 2, 1) := by decide +kernel
theorem dX9_ranked_126 : decode cX9_ranked 126 = .ok (.invokevirtual 60, 3) := by decide +kernel
theorem dX9_ranked_129 : decode cX9_ranked 129 = .ok (.ireturn, 1) := by decide +kernel
theorem dX9_allLitres_0 : decode cX9_allLitres 0 = .ok (.iconst 0, 1) := by decide +kernel
theorem dX9_allLitres_1 : decode cX9_allLitres 1 = .ok (.istore_n 1, 1) := by decide +kernel
theorem dX9_allLitres_2 : decode cX9_allLitres 2 = .ok (.iconst 0, 1) := by decide +kernel
theorem dX9_allLitres_3 : decode cX9_allLitres 3 = .ok (.istore_n 2, 1) := by decide +kernel
theorem dX9_allLitres_4 : decode cX9_allLitres 4 = .ok (.iload_n 2, 1) := by decide +kernel
theorem dX9_allLitres_5 : decode cX9_allLitres 5 = .ok (.aload_n 0, 1) := by decide +kernel
theorem dX9_allLitres_6 : decode cX9_allLitres 6 = .ok (.getfield 7, 3) := by decide +kernel
theorem dX9_allLitres_9 : decode cX9_allLitres 9 = .ok (.iconst 0, 1) := by decide +kernel
theorem dX9_allLitres_10 : decode cX9_allLitres 10 = .ok (.iaload, 1) := by decide +kernel
theorem dX9_allLitres_11 : decode cX9_allLitres 11 = .ok (.if_icmp .ge 18, 3) := by decide +kernel
theorem dX9_allLitres_14 : decode cX9_allLitres 14 = .ok (.iload_n 1, 1) := by decide +kernel
theorem dX9_allLitres_15 : decode cX9_allLitres 15 = .ok (.aload_n 0, 1) := by decide +kernel
theorem dX9_allLitres_16 : decode cX9_allLitres 16 = .ok (.iload_n 2, 1) := by decide +kernel
theorem dX9_allLitres_17 : decode cX9_allLitres 17 = .ok (.iconst 1, 1) := by decide +kernel
theorem dX9_allLitres_18 : decode cX9_allLitres 18 = .ok (.invokevirtual 67, 3) := by decide +kernel
theorem dX9_allLitres_21 : decode cX9_allLitres 21 = .ok (.iadd, 1) := by decide +kernel
theorem dX9_allLitres_22 : decode cX9_allLitres 22 = .ok (.istore_n 1, 1) := by decide +kernel
theorem dX9_allLitres_23 : decode cX9_allLitres 23 = .ok (.iinc 2 1, 3) := by decide +kernel
theorem dX9_allLitres_26 : decode cX9_allLitres 26 = .ok (.goto (-22), 3) := by decide +kernel
theorem dX9_allLitres_29 : decode cX9_allLitres 29 = .ok (.iload_n 1, 1) := by decide +kernel
theorem dX9_allLitres_30 : decode cX9_allLitres 30 = .ok (.ireturn, 1) := by decide +kernel
theorem dX9_isEven_0 : decode cX9_isEven 0 = .ok (.aload_n 0, 1) := by decide +kernel
theorem dX9_isEven_1 : decode cX9_isEven 1 = .ok (.iconst 0, 1) := by decide +kernel
theorem dX9_isEven_2 : decode cX9_isEven 2 = .ok (.putfield 35, 3) := by decide +kernel
theorem dX9_isEven_5 : decode cX9_isEven 5 = .ok (.aload_n 0, 1) := by decide +kernel
theorem dX9_isEven_6 : decode cX9_isEven 6 = .ok (.getfield 7, 3) := by decide +kernel
theorem dX9_isEven_9 : decode cX9_isEven 9 = .ok (.iconst 5, 1) := by decide +kernel
theorem dX9_isEven_10 : decode cX9_isEven 10 = .ok (.iaload, 1) := by decide +kernel
theorem dX9_isEven_11 : decode cX9_isEven 11 = .ok (.aload_n 0, 1) := by decide +kernel
theorem dX9_isEven_12 : decode cX9_isEven 12 = .ok (.getfield 7, 3) := by decide +kernel
theorem dX9_isEven_15 : decode cX9_isEven 15 = .ok (.bipush 6, 2) := by decide +kernel
theorem dX9_isEven_17 : decode cX9_isEven 17 = .ok (.iaload, 1) := by decide +kernel
theorem dX9_isEven_18 : decode cX9_isEven 18 = .ok (.iadd, 1) := by decide +kernel
theorem dX9_isEven_19 : decode cX9_isEven 19 = .ok (.aload_n 0, 1) := by decide +kernel
theorem dX9_isEven_20 : decode cX9_isEven 20 = .ok (.invokevirtual 180, 3) := by decide +kernel
theorem dX9_isEven_23 : decode cX9_isEven 23 = .ok (.aload_n 0, 1) := by decide +kernel
theorem dX9_isEven_24 : decode cX9_isEven 24 = .ok (.getfield 7, 3) := by decide +kernel
theorem dX9_isEven_27 : decode cX9_isEven 27 = .ok (.bipush 8, 2) := by decide +kernel
theorem dX9_isEven_29 : decode cX9_isEven 29 = .ok (.iaload, 1) := by decide +kernel
theorem dX9_isEven_30 : decode cX9_isEven 30 = .ok (.iadd, 1) := by decide +kernel
theorem dX9_isEven_31 : decode cX9_isEven 31 = .ok (.aload_n 0, 1) := by decide +kernel
theorem dX9_isEven_32 : decode cX9_isEven 32 = .ok (.getfield 7, 3) := by decide +kernel
theorem dX9_isEven_35 : decode cX9_isEven 35 = .ok (.bipush 9, 2) := by decide +kernel
theorem dX9_isEven_37 : decode cX9_isEven 37 = .ok (.iaload, 1) := by decide +kernel
theorem dX9_isEven_38 : decode cX9_isEven 38 = .ok (.iadd, 1) := by decide +kernel
theorem dX9_isEven_39 : decode cX9_isEven 39 = .ok (.if_icmp .ne 7, 3) := by decide +kernel
theorem dX9_isEven_42 : decode cX9_isEven 42 = .ok (.iconst 1, 1) := by decide +kernel
theorem dX9_isEven_43 : decode cX9_isEven 43 = .ok (.goto 4, 3) := by decide +kernel
theorem dX9_isEven_46 : decode cX9_isEven 46 = .ok (.iconst 0, 1) := by decide +kernel
theorem dX9_isEven_47 : decode cX9_isEven 47 = .ok (.ireturn, 1) := by decide +kernel
theorem dX9_append_0 : decode cX9_append 0 = .ok (.aload_n 0, 1) := by decide +kernel
theorem dX9_append_1 : decode cX9_append 1 = .ok (.aload_n 0, 1) := by decide +kernel
theorem dX9_append_2 : decode cX9_append 2 = .ok (.getfield 183, 3) := by decide +kernel
theorem dX9_append_5 : decode cX9_append 5 = .ok (.bipush 60, 2) := by decide +kernel
theorem dX9_append_7 : decode cX9_append 7 = .ok (.if_icmp .ne 7, 3) := by decide +kernel
theorem dX9_append_10 : decode cX9_append 10 = .ok (.iconst 1, 1) := by decide +kernel
theorem dX9_append_11 : decode cX9_append 11 = .ok (.goto 4, 3) := by decide +kernel
theorem dX9_append_14 : decode cX9_append 14 = .ok (.iconst 0, 1) := by decide +kernel
theorem dX9_append_15 : decode cX9_append 15 = .ok (.putfield 35, 3) := by decide +kernel
theorem dX9_append_18 : decode cX9_append 18 = .ok (.aload_n 0, 1) := by decide +kernel
theorem dX9_append_19 : decode cX9_append 19 = .ok (.getfield 35, 3) := by decide +kernel
theorem dX9_append_22 : decode cX9_append 22 = .ok (.ifCond .le 5, 3) := by decide +kernel
theorem dX9_append_25 : decode cX9_append 25 = .ok (.iconst 0, 1) := by decide +kernel
theorem dX9_append_26 : decode cX9_append 26 = .ok (.ireturn, 1) := by decide +kernel
theorem dX9_append_27 : decode cX9_append 27 = .ok (.aload_n 0, 1) := by decide +kernel
theorem dX9_append_28 : decode cX9_append 28 = .ok (.getfield 22, 3) := by decide +kernel
theorem dX9_append_31 : decode cX9_append 31 = .ok (.aload_n 0, 1) := by decide +kernel
theorem dX9_append_32 : decode cX9_append 32 = .ok (.getfield 183, 3) := by decide +kernel
theorem dX9_append_35 : decode cX9_append 35 = .ok (.iload_n 1, 1) := by decide +kernel
theorem dX9_append_36 : decode cX9_append 36 = .ok (.iastore, 1) := by decide +kernel
theorem dX9_append_37 : decode cX9_append 37 = .ok (.aload_n 0, 1) := by decide +kernel
theorem dX9_append_38 : decode cX9_append 38 = .ok (.dup, 1) := by decide +kernel
theorem dX9_append_39 : decode cX9_append 39 = .ok (.getfield 183, 3) := by decide +kernel
theorem dX9_append_42 : decode cX9_append 42 = .ok (.iconst 1, 1) := by decide +kernel
theorem dX9_append_43 : decode cX9_append 43 = .ok (.iadd, 1) := by decide +kernel
theorem dX9_append_44 : decode cX9_append 44 = .ok (.putfield 183, 3) := by decide +kernel
theorem dX9_append_47 : decode cX9_append 47 = .ok (.aload_n 0, 1) := by decide +kernel
theorem dX9_append_48 : decode cX9_append 48 = .ok (.getfield 183, 3) := by decide +kernel
theorem dX9_append_51 : decode cX9_append 51 = .ok (.ireturn, 1) := by decide +kernel
theorem dX9_here_0 : decode cX9_here 0 = .ok (.aload_n 0, 1) := by decide +kernel
theorem dX9_here_1 : decode cX9_here 1 = .ok (.getfield 186, 3) := by decide +kernel
theorem dX9_here_4 : decode cX9_here 4 = .ok (.aload_n 0, 1) := by decide +kernel
theorem dX9_here_5 : decode cX9_here 5 = .ok (.getfield 189, 3) := by decide +kernel
theorem dX9_here_8 : decode cX9_here 8 = .ok (.if_icmp .ge 15, 3) := by decide +kernel
theorem dX9_here_11 : decode cX9_here 11 = .ok (.aload_n 0, 1) := by decide +kernel
theorem dX9_here_12 : decode cX9_here 12 = .ok (.getfield 22, 3) := by decide +kernel
theorem dX9_here_15 : decode cX9_here 15 = .ok (.aload_n 0, 1) := by decide +kernel
theorem dX9_here_16 : decode cX9_here 16 = .ok (.getfield 186, 3) := by decide +kernel
theorem dX9_here_19 : decode cX9_here 19 = .ok (.iaload, 1) := by decide +kernel
theorem dX9_here_20 : decode cX9_here 20 = .ok (.goto 4, 3) := by decide +kernel
theorem dX9_here_23 : decode cX9_here 23 = .ok (.iconst (-1), 1) := by decide +kernel
theorem dX9_here_24 : decode cX9_here 24 = .ok (.ireturn, 1) := by decide +kernel
theorem dX9_sign_0 : decode cX9_sign 0 = .ok (.aload_n 0, 1) := by decide +kernel
theorem dX9_sign_1 : decode cX9_sign 1 = .ok (.aload_n 0, 1) := by decide +kernel
theorem dX9_sign_2 : decode cX9_sign 2 = .ok (.getfield 192, 3) := by decide +kernel
theorem dX9_sign_5 : decode cX9_sign 5 = .ok (.ifCond .ne 11, 3) := by decide +kernel
theorem dX9_sign_8 : decode cX9_sign 8 = .ok (.aload_n 0, 1) := by decide +kernel
theorem dX9_sign_9 : decode cX9_sign 9 = .ok (.invokevirtual 196, 3) := by decide +kernel
theorem dX9_sign_12 : decode cX9_sign 12 = .ok (.iload_n 1, 1) := by decide +kernel
theorem dX9_sign_13 : decode cX9_sign 13 = .ok (.if_icmp .eq 7, 3) := by decide +kernel
theorem dX9_sign_16 : decode cX9_sign 16 = .ok (.iconst 1, 1) := by decide +kernel
theorem dX9_sign_17 : decode cX9_sign 17 = .ok (.goto 4, 3) := by decide +kernel
theorem dX9_sign_20 : decode cX9_sign 20 = .ok (.iconst 0, 1) := by decide +kernel
theorem dX9_sign_21 : decode cX9_sign 21 = .ok (.putfield 192, 3) := by decide +kernel
theorem dX9_sign_24 : decode cX9_sign 24 = .ok (.aload_n 0, 1) := by decide +kernel
theorem dX9_sign_25 : decode cX9_sign 25 = .ok (.dup, 1) := by decide +kernel
theorem dX9_sign_26 : decode cX9_sign 26 = .ok (.getfield 186, 3) := by decide +kernel
theorem dX9_sign_29 : decode cX9_sign 29 = .ok (.aload_n 0, 1) := by decide +kernel
theorem dX9_sign_30 : decode cX9_sign 30 = .ok (.getfield 192, 3) := by decide +kernel
theorem dX9_sign_33 : decode cX9_sign 33 = .ok (.ifCond .eq 7, 3) := by decide +kernel
theorem dX9_sign_36 : decode cX9_sign 36 = .ok (.iconst 0, 1) := by decide +kernel
theorem dX9_sign_37 : decode cX9_sign 37 = .ok (.goto 4, 3) := by decide +kernel
theorem dX9_sign_40 : decode cX9_sign 40 = .ok (.iconst 1, 1) := by decide +kernel
theorem dX9_sign_41 : decode cX9_sign 41 = .ok (.iadd, 1) := by decide +kernel
theorem dX9_sign_42 : decode cX9_sign 42 = .ok (.putfield 186, 3) := by decide +kernel
theorem dX9_sign_45 : decode cX9_sign 45 = .ok (.return_, 1) := by decide +kernel
theorem dX9_figure_0 : decode cX9_figure 0 = .ok (.iconst 0, 1) := by decide +kernel
theorem dX9_figure_1 : decode cX9_figure 1 = .ok (.istore_n 3, 1) := by decide +kernel
theorem dX9_figure_2 : decode cX9_figure 2 = .ok (.iconst 0, 1) := by decide +kernel
theorem dX9_figure_3 : decode cX9_figure 3 = .ok (.istore 4, 2) := by decide +kernel
theorem dX9_figure_5 : decode cX9_figure 5 = .ok (.aload_n 0, 1) := by decide +kernel
theorem dX9_figure_6 : decode cX9_figure 6 = .ok (.getfield 192, 3) := by decide +kernel
theorem dX9_figure_9 : decode cX9_figure 9 = .ok (.ifCond .ne 52, 3) := by decide +kernel
theorem dX9_figure_12 : decode cX9_figure 12 = .ok (.iload 4, 2) := by decide +kernel
theorem dX9_figure_14 : decode cX9_figure 14 = .ok (.iload_n 2, 1) := by decide +kernel
theorem dX9_figure_15 : decode cX9_figure 15 = .ok (.if_icmp .ge 46, 3) := by decide +kernel
theorem dX9_figure_18 : decode cX9_figure 18 = .ok (.aload_n 0, 1) := by decide +kernel
theorem dX9_figure_19 : decode cX9_figure 19 = .ok (.invokevirtual 196, 3) := by decide +kernel
theorem dX9_figure_22 : decode cX9_figure 22 = .ok (.bipush 48, 2) := by decide +kernel
theorem dX9_figure_24 : decode cX9_figure 24 = .ok (.bipush 57, 2) := by decide +kernel
theorem dX9_figure_26 : decode cX9_figure 26 = .ok (.invokestatic 63, 3) := by decide +kernel
theorem dX9_figure_29 : decode cX9_figure 29 = .ok (.ifCond .eq 32, 3) := by decide +kernel
theorem dX9_figure_32 : decode cX9_figure 32 = .ok (.bipush 10, 2) := by decide +kernel
theorem dX9_figure_34 : decode cX9_figure 34 = .ok (.iload_n 3, 1) := by decide +kernel
theorem dX9_figure_35 : decode cX9_figure 35 = .ok (.imul, 1) := by decide +kernel
theorem dX9_figure_36 : decode cX9_figure 36 = .ok (.aload_n 0, 1) := by decide +kernel
theorem dX9_figure_37 : decode cX9_figure 37 = .ok (.invokevirtual 196, 3) := by decide +kernel
theorem dX9_figure_40 : decode cX9_figure 40 = .ok (.iadd, 1) := by decide +kernel
theorem dX9_figure_41 : decode cX9_figure 41 = .ok (.bipush 48, 2) := by decide +kernel
theorem dX9_figure_43 : decode cX9_figure 43 = .ok (.isub, 1) := by decide +kernel
theorem dX9_figure_44 : decode cX9_figure 44 = .ok (.istore_n 3, 1) := by decide +kernel
theorem dX9_figure_45 : decode cX9_figure 45 = .ok (.aload_n 0, 1) := by decide +kernel
theorem dX9_figure_46 : decode cX9_figure 46 = .ok (.dup, 1) := by decide +kernel
theorem dX9_figure_47 : decode cX9_figure 47 = .ok (.getfield 186, 3) := by decide +kernel
theorem dX9_figure_50 : decode cX9_figure 50 = .ok (.iconst 1, 1) := by decide +kernel
theorem dX9_figure_51 : decode cX9_figure 51 = .ok (.iadd, 1) := by decide +kernel
theorem dX9_figure_52 : decode cX9_figure 52 = .ok (.putfield 186, 3) := by decide +kernel
theorem dX9_figure_55 : decode cX9_figure 55 = .ok (.iinc 4 1, 3) := by decide +kernel
theorem dX9_figure_58 : decode cX9_figure 58 = .ok (.goto (-53), 3) := by decide +kernel
theorem dX9_figure_61 : decode cX9_figure 61 = .ok (.aload_n 0, 1) := by decide +kernel
theorem dX9_figure_62 : decode cX9_figure 62 = .ok (.aload_n 0, 1) := by decide +kernel
theorem dX9_figure_63 : decode cX9_figure 63 = .ok (.getfield 192, 3) := by decide +kernel
theorem dX9_figure_66 : decode cX9_figure 66 = .ok (.ifCond .ne 8, 3) := by decide +kernel
theorem dX9_figure_69 : decode cX9_figure 69 = .ok (.iload 4, 2) := by decide +kernel
theorem dX9_figure_71 : decode cX9_figure 71 = .ok (.ifCond .ne 7, 3) := by decide +kernel
theorem dX9_figure_74 : decode cX9_figure 74 = .ok (.iconst 1, 1) := by decide +kernel
theorem dX9_figure_75 : decode cX9_figure 75 = .ok (.goto 4, 3) := by decide +kernel
theorem dX9_figure_78 : decode cX9_figure 78 = .ok (.iconst 0, 1) := by decide +kernel
theorem dX9_figure_79 : decode cX9_figure 79 = .ok (.putfield 192, 3) := by decide +kernel
theorem dX9_figure_82 : decode cX9_figure 82 = .ok (.aload_n 0, 1) := by decide +kernel
theorem dX9_figure_83 : decode cX9_figure 83 = .ok (.getfield 25, 3) := by decide +kernel
theorem dX9_figure_86 : decode cX9_figure 86 = .ok (.iconst 4, 1) := by decide +kernel
theorem dX9_figure_87 : decode cX9_figure 87 = .ok (.aload_n 0, 1) := by decide +kernel
theorem dX9_figure_88 : decode cX9_figure 88 = .ok (.getfield 199, 3) := by decide +kernel
theorem dX9_figure_91 : decode cX9_figure 91 = .ok (.imul, 1) := by decide +kernel
theorem dX9_figure_92 : decode cX9_figure 92 = .ok (.iload_n 1, 1) := by decide +kernel
theorem dX9_figure_93 : decode cX9_figure 93 = .ok (.iadd, 1) := by decide +kernel
theorem dX9_figure_94 : decode cX9_figure 94 = .ok (.iload_n 3, 1) := by decide +kernel
theorem dX9_figure_95 : decode cX9_figure 95 = .ok (.iastore, 1) := by decide +kernel
theorem dX9_figure_96 : decode cX9_figure 96 = .ok (.return_, 1) := by decide +kernel
theorem dX9_readsOne_0 : decode cX9_readsOne 0 = .ok (.aload_n 0, 1) := by decide +kernel
theorem dX9_readsOne_1 : decode cX9_readsOne 1 = .ok (.invokevirtual 196, 3) := by decide +kernel
theorem dX9_readsOne_4 : decode cX9_readsOne 4 = .ok (.istore_n 1, 1) := by decide +kernel
theorem dX9_readsOne_5 : decode cX9_readsOne 5 = .ok (.aload_n 0, 1) := by decide +kernel
theorem dX9_readsOne_6 : decode cX9_readsOne 6 = .ok (.getfield 25, 3) := by decide +kernel
theorem dX9_readsOne_9 : decode cX9_readsOne 9 = .ok (.iconst 4, 1) := by decide +kernel
theorem dX9_readsOne_10 : decode cX9_readsOne 10 = .ok (.aload_n 0, 1) := by decide +kernel
theorem dX9_readsOne_11 : decode cX9_readsOne 11 = .ok (.getfield 199, 3) := by decide +kernel
theorem dX9_readsOne_14 : decode cX9_readsOne 14 = .ok (.imul, 1) := by decide +kernel
theorem dX9_readsOne_15 : decode cX9_readsOne 15 = .ok (.iload_n 1, 1) := by decide +kernel
theorem dX9_readsOne_16 : decode cX9_readsOne 16 = .ok (.iastore, 1) := by decide +kernel
theorem dX9_readsOne_17 : decode cX9_readsOne 17 = .ok (.aload_n 0, 1) := by decide +kernel
theorem dX9_readsOne_18 : decode cX9_readsOne 18 = .ok (.dup, 1) := by decide +kernel
theorem dX9_readsOne_19 : decode cX9_readsOne 19 = .ok (.getfield 186, 3) := by decide +kernel
theorem dX9_readsOne_22 : decode cX9_readsOne 22 = .ok (.iload_n 1, 1) := by decide +kernel
theorem dX9_readsOne_23 : decode cX9_readsOne 23 = .ok (.iconst (-1), 1) := by decide +kernel
theorem dX9_readsOne_24 : decode cX9_readsOne 24 = .ok (.if_icmp .ne 7, 3) := by decide +kernel
theorem dX9_readsOne_27 : decode cX9_readsOne 27 = .ok (.iconst 0, 1) := by decide +kernel
theorem dX9_readsOne_28 : decode cX9_readsOne 28 = .ok (.goto 4, 3) := by decide +kernel
theorem dX9_readsOne_31 : decode cX9_readsOne 31 = .ok (.iconst 1, 1) := by decide +kernel
theorem dX9_readsOne_32 : decode cX9_readsOne 32 = .ok (.iadd, 1) := by decide +kernel
theorem dX9_readsOne_33 : decode cX9_readsOne 33 = .ok (.putfield 186, 3) := by decide +kernel
theorem dX9_readsOne_36 : decode cX9_readsOne 36 = .ok (.iload_n 1, 1) := by decide +kernel
theorem dX9_readsOne_37 : decode cX9_readsOne 37 = .ok (.tableswitch 198 98 121 #[186, 186, 198, 198, 198, 186, 165, 198, 198, 198, 186, 186, 198, 198, 132, 198, 198, 111, 186, 198, 198, 198, 186, 195], 111) := by decide +kernel
theorem dX9_readsOne_148 : decode cX9_readsOne 148 = .ok (.aload_n 0, 1) := by decide +kernel
theorem dX9_readsOne_149 : decode cX9_readsOne 149 = .ok (.iconst 1, 1) := by decide +kernel
theorem dX9_readsOne_150 : decode cX9_readsOne 150 = .ok (.iconst 1, 1) := by decide +kernel
theorem dX9_readsOne_151 : decode cX9_readsOne 151 = .ok (.invokevirtual 202, 3) := by decide +kernel
theorem dX9_readsOne_154 : decode cX9_readsOne 154 = .ok (.aload_n 0, 1) := by decide +kernel
theorem dX9_readsOne_155 : decode cX9_readsOne 155 = .ok (.bipush 42, 2) := by decide +kernel
theorem dX9_readsOne_157 : decode cX9_readsOne 157 = .ok (.invokevirtual 205, 3) := by decide +kernel
theorem dX9_readsOne_160 : decode cX9_readsOne 160 = .ok (.aload_n 0, 1) := by decide +kernel
theorem dX9_readsOne_161 : decode cX9_readsOne 161 = .ok (.iconst 2, 1) := by decide +kernel
theorem dX9_readsOne_162 : decode cX9_readsOne 162 = .ok (.iconst 1, 1) := by decide +kernel
theorem dX9_readsOne_163 : decode cX9_readsOne 163 = .ok (.invokevirtual 202, 3) := by decide +kernel
theorem dX9_readsOne_166 : decode cX9_readsOne 166 = .ok (.goto 93, 3) := by decide +kernel
theorem dX9_readsOne_169 : decode cX9_readsOne 169 = .ok (.aload_n 0, 1) := by decide +kernel
theorem dX9_readsOne_170 : decode cX9_readsOne 170 = .ok (.iconst 1, 1) := by decide +kernel
theorem dX9_readsOne_171 : decode cX9_readsOne 171 = .ok (.iconst 1, 1) := by decide +kernel
theorem dX9_readsOne_172 : decode cX9_readsOne 172 = .ok (.invokevirtual 202, 3) := by decide +kernel
theorem dX9_readsOne_175 : decode cX9_readsOne 175 = .ok (.aload_n 0, 1) := by decide +kernel
theorem dX9_readsOne_176 : decode cX9_readsOne 176 = .ok (.bipush 62, 2) := by decide +kernel
theorem dX9_readsOne_178 : decode cX9_readsOne 178 = .ok (.invokevirtual 205, 3) := by decide +kernel
theorem dX9_readsOne_181 : decode cX9_readsOne 181 = .ok (.aload_n 0, 1) := by decide +kernel
theorem dX9_readsOne_182 : decode cX9_readsOne 182 = .ok (.iconst 2, 1) := by decide +kernel
theorem dX9_readsOne_183 : decode cX9_readsOne 183 = .ok (.iconst 1, 1) := by decide +kernel
theorem dX9_readsOne_184 : decode cX9_readsOne 184 = .ok (.invokevirtual 202, 3) := by decide +kernel
theorem dX9_readsOne_187 : decode cX9_readsOne 187 = .ok (.aload_n 0, 1) := by decide +kernel
theorem dX9_readsOne_188 : decode cX9_readsOne 188 = .ok (.bipush 61, 2) := by decide +kernel
theorem dX9_readsOne_190 : decode cX9_readsOne 190 = .ok (.invokevirtual 205, 3) := by decide +kernel
theorem dX9_readsOne_193 : decode cX9_readsOne 193 = .ok (.aload_n 0, 1) := by decide +kernel
theorem dX9_readsOne_194 : decode cX9_readsOne 194 = .ok (.iconst 3, 1) := by decide +kernel
theorem dX9_readsOne_195 : decode cX9_readsOne 195 = .ok (.iconst 2, 1) := by decide +kernel
theorem dX9_readsOne_196 : decode cX9_readsOne 196 = .ok (.invokevirtual 202, 3) := by decide +kernel
theorem dX9_readsOne_199 : decode cX9_readsOne 199 = .ok (.goto 60, 3) := by decide +kernel
theorem dX9_readsOne_202 : decode cX9_readsOne 202 = .ok (.aload_n 0, 1) := by decide +kernel
theorem dX9_readsOne_203 : decode cX9_readsOne 203 = .ok (.iconst 1, 1) := by decide +kernel
theorem dX9_readsOne_204 : decode cX9_readsOne 204 = .ok (.iconst 1, 1) := by decide +kernel
theorem dX9_readsOne_205 : decode cX9_readsOne 205 = .ok (.invokevirtual 202, 3) := by decide +kernel
theorem dX9_readsOne_208 : decode cX9_readsOne 208 = .ok (.aload_n 0, 1) := by decide +kernel
theorem dX9_readsOne_209 : decode cX9_readsOne 209 = .ok (.bipush 61, 2) := by decide +kernel
theorem dX9_readsOne_211 : decode cX9_readsOne 211 = .ok (.invokevirtual 205, 3) := by decide +kernel
theorem dX9_readsOne_214 : decode cX9_readsOne 214 = .ok (.aload_n 0, 1) := by decide +kernel
theorem dX9_readsOne_215 : decode cX9_readsOne 215 = .ok (.iconst 2, 1) := by decide +kernel
theorem dX9_readsOne_216 : decode cX9_readsOne 216 = .ok (.iconst 2, 1) := by decide +kernel
theorem dX9_readsOne_217 : decode cX9_readsOne 217 = .ok (.invokevirtual 202, 3) := by decide +kernel
theorem dX9_readsOne_220 : decode cX9_readsOne 220 = .ok (.goto 39, 3) := by decide +kernel
theorem dX9_readsOne_223 : decode cX9_readsOne 223 = .ok (.aload_n 0, 1) := by decide +kernel
theorem dX9_readsOne_224 : decode cX9_readsOne 224 = .ok (.iconst 1, 1) := by decide +kernel
theorem dX9_readsOne_225 : decode cX9_readsOne 225 = .ok (.iconst 1, 1) := by decide +kernel
theorem dX9_readsOne_226 : decode cX9_readsOne 226 = .ok (.invokevirtual 202, 3) := by decide +kernel
theorem dX9_readsOne_229 : decode cX9_readsOne 229 = .ok (.goto 30, 3) := by decide +kernel
theorem dX9_readsOne_232 : decode cX9_readsOne 232 = .ok (.goto 27, 3) := by decide +kernel
theorem dX9_readsOne_235 : decode cX9_readsOne 235 = .ok (.aload_n 0, 1) := by decide +kernel
theorem dX9_readsOne_236 : decode cX9_readsOne 236 = .ok (.iconst 1, 1) := by decide +kernel
theorem dX9_readsOne_237 : decode cX9_readsOne 237 = .ok (.putfield 192, 3) := by decide +kernel
theorem dX9_readsOne_240 : decode cX9_readsOne 240 = .ok (.aload_n 0, 1) := by decide +kernel
theorem dX9_readsOne_241 : decode cX9_readsOne 241 = .ok (.dup, 1) := by decide +kernel
theorem dX9_readsOne_242 : decode cX9_readsOne 242 = .ok (.getfield 186, 3) := by decide +kernel
theorem dX9_readsOne_245 : decode cX9_readsOne 245 = .ok (.iload_n 1, 1) := by decide +kernel
theorem dX9_readsOne_246 : decode cX9_readsOne 246 = .ok (.iconst (-1), 1) := by decide +kernel
theorem dX9_readsOne_247 : decode cX9_readsOne 247 = .ok (.if_icmp .ne 7, 3) := by decide +kernel
theorem dX9_readsOne_250 : decode cX9_readsOne 250 = .ok (.iconst 0, 1) := by decide +kernel
theorem dX9_readsOne_251 : decode cX9_readsOne 251 = .ok (.goto 4, 3) := by decide +kernel
theorem dX9_readsOne_254 : decode cX9_readsOne 254 = .ok (.iconst 1, 1) := by decide +kernel
theorem dX9_readsOne_255 : decode cX9_readsOne 255 = .ok (.isub, 1) := by decide +kernel
theorem dX9_readsOne_256 : decode cX9_readsOne 256 = .ok (.putfield 186, 3) := by decide +kernel
theorem dX9_readsOne_259 : decode cX9_readsOne 259 = .ok (.aload_n 0, 1) := by decide +kernel
theorem dX9_readsOne_260 : decode cX9_readsOne 260 = .ok (.dup, 1) := by decide +kernel
theorem dX9_readsOne_261 : decode cX9_readsOne 261 = .ok (.getfield 199, 3) := by decide +kernel
theorem dX9_readsOne_264 : decode cX9_readsOne 264 = .ok (.iconst 1, 1) := by decide +kernel
theorem dX9_readsOne_265 : decode cX9_readsOne 265 = .ok (.iadd, 1) := by decide +kernel
theorem dX9_readsOne_266 : decode cX9_readsOne 266 = .ok (.putfield 199, 3) := by decide +kernel
theorem dX9_readsOne_269 : decode cX9_readsOne 269 = .ok (.return_, 1) := by decide +kernel
theorem dX9_does_0 : decode cX9_does 0 = .ok (.aload_n 0, 1) := by decide +kernel
theorem dX9_does_1 : decode cX9_does 1 = .ok (.getfield 25, 3) := by decide +kernel
theorem dX9_does_4 : decode cX9_does 4 = .ok (.iconst 4, 1) := by decide +kernel
theorem dX9_does_5 : decode cX9_does 5 = .ok (.iload_n 1, 1) := by decide +kernel
theorem dX9_does_6 : decode cX9_does 6 = .ok (.imul, 1) := by decide +kernel
theorem dX9_does_7 : decode cX9_does 7 = .ok (.iconst 1, 1) := by decide +kernel
theorem dX9_does_8 : decode cX9_does 8 = .ok (.iadd, 1) := by decide +kernel
theorem dX9_does_9 : decode cX9_does 9 = .ok (.iaload, 1) := by decide +kernel
theorem dX9_does_10 : decode cX9_does 10 = .ok (.istore_n 2, 1) := by decide +kernel
theorem dX9_does_11 : decode cX9_does 11 = .ok (.aload_n 0, 1) := by decide +kernel
theorem dX9_does_12 : decode cX9_does 12 = .ok (.getfield 25, 3) := by decide +kernel
theorem dX9_does_15 : decode cX9_does 15 = .ok (.iconst 4, 1) := by decide +kernel
theorem dX9_does_16 : decode cX9_does 16 = .ok (.iload_n 1, 1) := by decide +kernel
theorem dX9_does_17 : decode cX9_does 17 = .ok (.imul, 1) := by decide +kernel
theorem dX9_does_18 : decode cX9_does 18 = .ok (.iconst 2, 1) := by decide +kernel
theorem dX9_does_19 : decode cX9_does 19 = .ok (.iadd, 1) := by decide +kernel
theorem dX9_does_20 : decode cX9_does 20 = .ok (.iaload, 1) := by decide +kernel
theorem dX9_does_21 : decode cX9_does 21 = .ok (.istore_n 3, 1) := by decide +kernel
theorem dX9_does_22 : decode cX9_does 22 = .ok (.aload_n 0, 1) := by decide +kernel
theorem dX9_does_23 : decode cX9_does 23 = .ok (.getfield 25, 3) := by decide +kernel
theorem dX9_does_26 : decode cX9_does 26 = .ok (.iconst 4, 1) := by decide +kernel
theorem dX9_does_27 : decode cX9_does 27 = .ok (.iload_n 1, 1) := by decide +kernel
theorem dX9_does_28 : decode cX9_does 28 = .ok (.imul, 1) := by decide +kernel
theorem dX9_does_29 : decode cX9_does 29 = .ok (.iaload, 1) := by decide +kernel
theorem dX9_does_30 : decode cX9_does 30 = .ok (.tableswitch 181 98 120 #[113, 175, 181, 181, 181, 169, 142, 181, 181, 181, 163, 149, 181, 181, 125, 181, 181, 106, 156, 181, 181, 181, 119], 106) := by decide +kernel
theorem dX9_does_136 : decode cX9_does 136 = .ok (.aload_n 0, 1) := by decide +kernel
theorem dX9_does_137 : decode cX9_does 137 = .ok (.iload_n 2, 1) := by decide +kernel
theorem dX9_does_138 : decode cX9_does 138 = .ok (.iload_n 3, 1) := by decide +kernel
theorem dX9_does_139 : decode cX9_does 139 = .ok (.invokevirtual 127, 3) := by decide +kernel
theorem dX9_does_142 : decode cX9_does 142 = .ok (.ireturn, 1) := by decide +kernel
theorem dX9_does_143 : decode cX9_does 143 = .ok (.aload_n 0, 1) := by decide +kernel
theorem dX9_does_144 : decode cX9_does 144 = .ok (.iload_n 2, 1) := by decide +kernel
theorem dX9_does_145 : decode cX9_does 145 = .ok (.invokevirtual 133, 3) := by decide +kernel
theorem dX9_does_148 : decode cX9_does 148 = .ok (.ireturn, 1) := by decide +kernel
theorem dX9_does_149 : decode cX9_does 149 = .ok (.aload_n 0, 1) := by decide +kernel
theorem dX9_does_150 : decode cX9_does 150 = .ok (.iload_n 2, 1) := by decide +kernel
theorem dX9_does_151 : decode cX9_does 151 = .ok (.invokevirtual 136, 3) := by decide +kernel
theorem dX9_does_154 : decode cX9_does 154 = .ok (.ireturn, 1) := by decide +kernel
theorem dX9_does_155 : decode cX9_does 155 = .ok (.aload_n 0, 1) := by decide +kernel
theorem dX9_does_156 : decode cX9_does 156 = .ok (.iload_n 2, 1) := by decide +kernel
theorem dX9_does_157 : decode cX9_does 157 = .ok (.iload_n 3, 1) := by decide +kernel
theorem dX9_does_158 : decode cX9_does 158 = .ok (.aload_n 0, 1) := by decide +kernel
theorem dX9_does_159 : decode cX9_does 159 = .ok (.getfield 25, 3) := by decide +kernel
theorem dX9_does_162 : decode cX9_does 162 = .ok (.iconst 4, 1) := by decide +kernel
theorem dX9_does_163 : decode cX9_does 163 = .ok (.iload_n 1, 1) := by decide +kernel
theorem dX9_does_164 : decode cX9_does 164 = .ok (.imul, 1) := by decide +kernel
theorem dX9_does_165 : decode cX9_does 165 = .ok (.iconst 3, 1) := by decide +kernel
theorem dX9_does_166 : decode cX9_does 166 = .ok (.iadd, 1) := by decide +kernel
theorem dX9_does_167 : decode cX9_does 167 = .ok (.iaload, 1) := by decide +kernel
theorem dX9_does_168 : decode cX9_does 168 = .ok (.invokevirtual 139, 3) := by decide +kernel
theorem dX9_does_171 : decode cX9_does 171 = .ok (.ireturn, 1) := by decide +kernel
theorem dX9_does_172 : decode cX9_does 172 = .ok (.aload_n 0, 1) := by decide +kernel
theorem dX9_does_173 : decode cX9_does 173 = .ok (.iload_n 2, 1) := by decide +kernel
theorem dX9_does_174 : decode cX9_does 174 = .ok (.iload_n 3, 1) := by decide +kernel
theorem dX9_does_175 : decode cX9_does 175 = .ok (.invokevirtual 143, 3) := by decide +kernel
theorem dX9_does_178 : decode cX9_does 178 = .ok (.ireturn, 1) := by decide +kernel
theorem dX9_does_179 : decode cX9_does 179 = .ok (.aload_n 0, 1) := by decide +kernel
theorem dX9_does_180 : decode cX9_does 180 = .ok (.iload_n 2, 1) := by decide +kernel
theorem dX9_does_181 : decode cX9_does 181 = .ok (.iconst 0, 1) := by decide +kernel
theorem dX9_does_182 : decode cX9_does 182 = .ok (.invokevirtual 146, 3) := by decide +kernel
theorem dX9_does_185 : decode cX9_does 185 = .ok (.ireturn, 1) := by decide +kernel
theorem dX9_does_186 : decode cX9_does 186 = .ok (.aload_n 0, 1) := by decide +kernel
theorem dX9_does_187 : decode cX9_does 187 = .ok (.iload_n 2, 1) := by decide +kernel
theorem dX9_does_188 : decode cX9_does 188 = .ok (.iconst 1, 1) := by decide +kernel
theorem dX9_does_189 : decode cX9_does 189 = .ok (.invokevirtual 146, 3) := by decide +kernel
theorem dX9_does_192 : decode cX9_does 192 = .ok (.ireturn, 1) := by decide +kernel
theorem dX9_does_193 : decode cX9_does 193 = .ok (.aload_n 0, 1) := by decide +kernel
theorem dX9_does_194 : decode cX9_does 194 = .ok (.iload_n 2, 1) := by decide +kernel
theorem dX9_does_195 : decode cX9_does 195 = .ok (.invokevirtual 149, 3) := by decide +kernel
theorem dX9_does_198 : decode cX9_does 198 = .ok (.ireturn, 1) := by decide +kernel
theorem dX9_does_199 : decode cX9_does 199 = .ok (.aload_n 0, 1) := by decide +kernel
theorem dX9_does_200 : decode cX9_does 200 = .ok (.iload_n 2, 1) := by decide +kernel
theorem dX9_does_201 : decode cX9_does 201 = .ok (.invokevirtual 152, 3) := by decide +kernel
theorem dX9_does_204 : decode cX9_does 204 = .ok (.ireturn, 1) := by decide +kernel
theorem dX9_does_205 : decode cX9_does 205 = .ok (.aload_n 0, 1) := by decide +kernel
theorem dX9_does_206 : decode cX9_does 206 = .ok (.iload_n 2, 1) := by decide +kernel
theorem dX9_does_207 : decode cX9_does 207 = .ok (.invokevirtual 155, 3) := by decide +kernel
theorem dX9_does_210 : decode cX9_does 210 = .ok (.ireturn, 1) := by decide +kernel
theorem dX9_does_211 : decode cX9_does 211 = .ok (.aload_n 0, 1) := by decide +kernel
theorem dX9_does_212 : decode cX9_does 212 = .ok (.invokevirtual 158, 3) := by decide +kernel
theorem dX9_does_215 : decode cX9_does 215 = .ok (.ireturn, 1) := by decide +kernel
theorem dX9_commands_0 : decode cX9_commands 0 = .ok (.aload_n 0, 1) := by decide +kernel
theorem dX9_commands_1 : decode cX9_commands 1 = .ok (.invokevirtual 124, 3) := by decide +kernel
theorem dX9_commands_4 : decode cX9_commands 4 = .ok (.aload_n 0, 1) := by decide +kernel
theorem dX9_commands_5 : decode cX9_commands 5 = .ok (.iconst 0, 1) := by decide +kernel
theorem dX9_commands_6 : decode cX9_commands 6 = .ok (.putfield 186, 3) := by decide +kernel
theorem dX9_commands_9 : decode cX9_commands 9 = .ok (.aload_n 0, 1) := by decide +kernel
theorem dX9_commands_10 : decode cX9_commands 10 = .ok (.aload_n 0, 1) := by decide +kernel
theorem dX9_commands_11 : decode cX9_commands 11 = .ok (.getfield 183, 3) := by decide +kernel
theorem dX9_commands_14 : decode cX9_commands 14 = .ok (.putfield 189, 3) := by decide +kernel
theorem dX9_commands_17 : decode cX9_commands 17 = .ok (.aload_n 0, 1) := by decide +kernel
theorem dX9_commands_18 : decode cX9_commands 18 = .ok (.iconst 0, 1) := by decide +kernel
theorem dX9_commands_19 : decode cX9_commands 19 = .ok (.putfield 183, 3) := by decide +kernel
theorem dX9_commands_22 : decode cX9_commands 22 = .ok (.aload_n 0, 1) := by decide +kernel
theorem dX9_commands_23 : decode cX9_commands 23 = .ok (.iconst 0, 1) := by decide +kernel
theorem dX9_commands_24 : decode cX9_commands 24 = .ok (.putfield 199, 3) := by decide +kernel
theorem dX9_commands_27 : decode cX9_commands 27 = .ok (.aload_n 0, 1) := by decide +kernel
theorem dX9_commands_28 : decode cX9_commands 28 = .ok (.iconst 0, 1) := by decide +kernel
theorem dX9_commands_29 : decode cX9_commands 29 = .ok (.putfield 192, 3) := by decide +kernel
theorem dX9_commands_32 : decode cX9_commands 32 = .ok (.aload_n 0, 1) := by decide +kernel
theorem dX9_commands_33 : decode cX9_commands 33 = .ok (.iconst (-1), 1) := by decide +kernel
theorem dX9_commands_34 : decode cX9_commands 34 = .ok (.putfield 31, 3) := by decide +kernel
theorem dX9_commands_37 : decode cX9_commands 37 = .ok (.aload_n 0, 1) := by decide +kernel
theorem dX9_commands_38 : decode cX9_commands 38 = .ok (.invokevirtual 208, 3) := by decide +kernel
theorem dX9_commands_41 : decode cX9_commands 41 = .ok (.aload_n 0, 1) := by decide +kernel
theorem dX9_commands_42 : decode cX9_commands 42 = .ok (.getfield 192, 3) := by decide +kernel
theorem dX9_commands_45 : decode cX9_commands 45 = .ok (.ifCond .ne 29, 3) := by decide +kernel
theorem dX9_commands_48 : decode cX9_commands 48 = .ok (.aload_n 0, 1) := by decide +kernel
theorem dX9_commands_49 : decode cX9_commands 49 = .ok (.invokevirtual 196, 3) := by decide +kernel
theorem dX9_commands_52 : decode cX9_commands 52 = .ok (.bipush 59, 2) := by decide +kernel
theorem dX9_commands_54 : decode cX9_commands 54 = .ok (.if_icmp .ne 20, 3) := by decide +kernel
theorem dX9_commands_57 : decode cX9_commands 57 = .ok (.aload_n 0, 1) := by decide +kernel
theorem dX9_commands_58 : decode cX9_commands 58 = .ok (.dup, 1) := by decide +kernel
theorem dX9_commands_59 : decode cX9_commands 59 = .ok (.getfield 186, 3) := by decide +kernel
theorem dX9_commands_62 : decode cX9_commands 62 = .ok (.iconst 1, 1) := by decide +kernel
theorem dX9_commands_63 : decode cX9_commands 63 = .ok (.iadd, 1) := by decide +kernel
theorem dX9_commands_64 : decode cX9_commands 64 = .ok (.putfield 186, 3) := by decide +kernel
theorem dX9_commands_67 : decode cX9_commands 67 = .ok (.aload_n 0, 1) := by decide +kernel
theorem dX9_commands_68 : decode cX9_commands 68 = .ok (.invokevirtual 208, 3) := by decide +kernel
theorem dX9_commands_71 : decode cX9_commands 71 = .ok (.goto (-30), 3) := by decide +kernel
theorem dX9_commands_74 : decode cX9_commands 74 = .ok (.aload_n 0, 1) := by decide +kernel
theorem dX9_commands_75 : decode cX9_commands 75 = .ok (.getfield 192, 3) := by decide +kernel
theorem dX9_commands_78 : decode cX9_commands 78 = .ok (.ifCond .ne 14, 3) := by decide +kernel
theorem dX9_commands_81 : decode cX9_commands 81 = .ok (.aload_n 0, 1) := by decide +kernel
theorem dX9_commands_82 : decode cX9_commands 82 = .ok (.getfield 186, 3) := by decide +kernel
theorem dX9_commands_85 : decode cX9_commands 85 = .ok (.aload_n 0, 1) := by decide +kernel
theorem dX9_commands_86 : decode cX9_commands 86 = .ok (.getfield 189, 3) := by decide +kernel
theorem dX9_commands_89 : decode cX9_commands 89 = .ok (.if_icmp .ge 17, 3) := by decide +kernel
theorem dX9_commands_92 : decode cX9_commands 92 = .ok (.aload_n 0, 1) := by decide +kernel
theorem dX9_commands_93 : decode cX9_commands 93 = .ok (.aload_n 0, 1) := by decide +kernel
theorem dX9_commands_94 : decode cX9_commands 94 = .ok (.getfield 186, 3) := by decide +kernel
theorem dX9_commands_97 : decode cX9_commands 97 = .ok (.putfield 31, 3) := by decide +kernel
theorem dX9_commands_100 : decode cX9_commands 100 = .ok (.aload_n 0, 1) := by decide +kernel
theorem dX9_commands_101 : decode cX9_commands 101 = .ok (.iconst 1, 1) := by decide +kernel
theorem dX9_commands_102 : decode cX9_commands 102 = .ok (.invokevirtual 60, 3) := by decide +kernel
theorem dX9_commands_105 : decode cX9_commands 105 = .ok (.ireturn, 1) := by decide +kernel
theorem dX9_commands_106 : decode cX9_commands 106 = .ok (.iconst 0, 1) := by decide +kernel
theorem dX9_commands_107 : decode cX9_commands 107 = .ok (.istore_n 1, 1) := by decide +kernel
theorem dX9_commands_108 : decode cX9_commands 108 = .ok (.iload_n 1, 1) := by decide +kernel
theorem dX9_commands_109 : decode cX9_commands 109 = .ok (.aload_n 0, 1) := by decide +kernel
theorem dX9_commands_110 : decode cX9_commands 110 = .ok (.getfield 199, 3) := by decide +kernel
theorem dX9_commands_113 : decode cX9_commands 113 = .ok (.if_icmp .ge 72, 3) := by decide +kernel
theorem dX9_commands_116 : decode cX9_commands 116 = .ok (.aload_n 0, 1) := by decide +kernel
theorem dX9_commands_117 : decode cX9_commands 117 = .ok (.iload_n 1, 1) := by decide +kernel
theorem dX9_commands_118 : decode cX9_commands 118 = .ok (.invokevirtual 211, 3) := by decide +kernel
theorem dX9_commands_121 : decode cX9_commands 121 = .ok (.istore_n 2, 1) := by decide +kernel
theorem dX9_commands_122 : decode cX9_commands 122 = .ok (.iload_n 2, 1) := by decide +kernel
theorem dX9_commands_123 : decode cX9_commands 123 = .ok (.ifCond .ne 6, 3) := by decide +kernel
theorem dX9_commands_126 : decode cX9_commands 126 = .ok (.goto 53, 3) := by decide +kernel
theorem dX9_commands_129 : decode cX9_commands 129 = .ok (.iconst 0, 1) := by decide +kernel
theorem dX9_commands_130 : decode cX9_commands 130 = .ok (.istore_n 3, 1) := by decide +kernel
theorem dX9_commands_131 : decode cX9_commands 131 = .ok (.iload_n 3, 1) := by decide +kernel
theorem dX9_commands_132 : decode cX9_commands 132 = .ok (.bipush 107, 2) := by decide +kernel
theorem dX9_commands_134 : decode cX9_commands 134 = .ok (.if_icmp .ge 21, 3) := by decide +kernel
theorem dX9_commands_137 : decode cX9_commands 137 = .ok (.aload_n 0, 1) := by decide +kernel
theorem dX9_commands_138 : decode cX9_commands 138 = .ok (.getfield 7, 3) := by decide +kernel
theorem dX9_commands_141 : decode cX9_commands 141 = .ok (.iload_n 3, 1) := by decide +kernel
theorem dX9_commands_142 : decode cX9_commands 142 = .ok (.aload_n 0, 1) := by decide +kernel
theorem dX9_commands_143 : decode cX9_commands 143 = .ok (.getfield 13, 3) := by decide +kernel
theorem dX9_commands_146 : decode cX9_commands 146 = .ok (.iload_n 3, 1) := by decide +kernel
theorem dX9_commands_147 : decode cX9_commands 147 = .ok (.iaload, 1) := by decide +kernel
theorem dX9_commands_148 : decode cX9_commands 148 = .ok (.iastore, 1) := by decide +kernel
theorem dX9_commands_149 : decode cX9_commands 149 = .ok (.iinc 3 1, 3) := by decide +kernel
theorem dX9_commands_152 : decode cX9_commands 152 = .ok (.goto (-21), 3) := by decide +kernel
theorem dX9_commands_155 : decode cX9_commands 155 = .ok (.aload_n 0, 1) := by decide +kernel
theorem dX9_commands_156 : decode cX9_commands 156 = .ok (.iload_n 2, 1) := by decide +kernel
theorem dX9_commands_157 : decode cX9_commands 157 = .ok (.putfield 51, 3) := by decide +kernel
theorem dX9_commands_160 : decode cX9_commands 160 = .ok (.aload_n 0, 1) := by decide +kernel
theorem dX9_commands_161 : decode cX9_commands 161 = .ok (.aload_n 0, 1) := by decide +kernel
theorem dX9_commands_162 : decode cX9_commands 162 = .ok (.getfield 41, 3) := by decide +kernel
theorem dX9_commands_165 : decode cX9_commands 165 = .ok (.putfield 54, 3) := by decide +kernel
theorem dX9_commands_168 : decode cX9_commands 168 = .ok (.aload_n 0, 1) := by decide +kernel
theorem dX9_commands_169 : decode cX9_commands 169 = .ok (.iload_n 1, 1) := by decide +kernel
theorem dX9_commands_170 : decode cX9_commands 170 = .ok (.putfield 57, 3) := by decide +kernel
theorem dX9_commands_173 : decode cX9_commands 173 = .ok (.aload_n 0, 1) := by decide +kernel
theorem dX9_commands_174 : decode cX9_commands 174 = .ok (.iconst 2, 1) := by decide +kernel
theorem dX9_commands_175 : decode cX9_commands 175 = .ok (.invokevirtual 60, 3) := by decide +kernel
theorem dX9_commands_178 : decode cX9_commands 178 = .ok (.ireturn, 1) := by decide +kernel
theorem dX9_commands_179 : decode cX9_commands 179 = .ok (.iinc 1 1, 3) := by decide +kernel
theorem dX9_commands_182 : decode cX9_commands 182 = .ok (.goto (-74), 3) := by decide +kernel
theorem dX9_commands_185 : decode cX9_commands 185 = .ok (.aload_n 0, 1) := by decide +kernel
theorem dX9_commands_186 : decode cX9_commands 186 = .ok (.aload_n 0, 1) := by decide +kernel
theorem dX9_commands_187 : decode cX9_commands 187 = .ok (.getfield 199, 3) := by decide +kernel
theorem dX9_commands_190 : decode cX9_commands 190 = .ok (.invokevirtual 47, 3) := by decide +kernel
theorem dX9_commands_193 : decode cX9_commands 193 = .ok (.ireturn, 1) := by decide +kernel
theorem dX9_faultPosition_0 : decode cX9_faultPosition 0 = .ok (.aload_n 0, 1) := by decide +kernel
theorem dX9_faultPosition_1 : decode cX9_faultPosition 1 = .ok (.iconst 0, 1) := by decide +kernel
theorem dX9_faultPosition_2 : decode cX9_faultPosition 2 = .ok (.putfield 35, 3) := by decide +kernel
theorem dX9_faultPosition_5 : decode cX9_faultPosition 5 = .ok (.aload_n 0, 1) := by decide +kernel
theorem dX9_faultPosition_6 : decode cX9_faultPosition 6 = .ok (.getfield 31, 3) := by decide +kernel
theorem dX9_faultPosition_9 : decode cX9_faultPosition 9 = .ok (.ireturn, 1) := by decide +kernel
theorem dX9_reason_0 : decode cX9_reason 0 = .ok (.aload_n 0, 1) := by decide +kernel
theorem dX9_reason_1 : decode cX9_reason 1 = .ok (.iload_n 1, 1) := by decide +kernel
theorem dX9_reason_2 : decode cX9_reason 2 = .ok (.iconst 0, 1) := by decide +kernel
theorem dX9_reason_3 : decode cX9_reason 3 = .ok (.iconst 2, 1) := by decide +kernel
theorem dX9_reason_4 : decode cX9_reason 4 = .ok (.invokestatic 63, 3) := by decide +kernel
theorem dX9_reason_7 : decode cX9_reason 7 = .ok (.ifCond .ne 7, 3) := by decide +kernel
theorem dX9_reason_10 : decode cX9_reason 10 = .ok (.iconst 1, 1) := by decide +kernel
theorem dX9_reason_11 : decode cX9_reason 11 = .ok (.goto 15, 3) := by decide +kernel
theorem dX9_reason_14 : decode cX9_reason 14 = .ok (.aload_n 0, 1) := by decide +kernel
theorem dX9_reason_15 : decode cX9_reason 15 = .ok (.getfield 51, 3) := by decide +kernel
theorem dX9_reason_18 : decode cX9_reason 18 = .ok (.ifCond .ne 7, 3) := by decide +kernel
theorem dX9_reason_21 : decode cX9_reason 21 = .ok (.iconst 2, 1) := by decide +kernel
theorem dX9_reason_22 : decode cX9_reason 22 = .ok (.goto 4, 3) := by decide +kernel
theorem dX9_reason_25 : decode cX9_reason 25 = .ok (.iconst 0, 1) := by decide +kernel
theorem dX9_reason_26 : decode cX9_reason 26 = .ok (.putfield 35, 3) := by decide +kernel
theorem dX9_reason_29 : decode cX9_reason 29 = .ok (.aload_n 0, 1) := by decide +kernel
theorem dX9_reason_30 : decode cX9_reason 30 = .ok (.getfield 35, 3) := by decide +kernel
theorem dX9_reason_33 : decode cX9_reason 33 = .ok (.ifCond .le 7, 3) := by decide +kernel
theorem dX9_reason_36 : decode cX9_reason 36 = .ok (.iconst 0, 1) := by decide +kernel
theorem dX9_reason_37 : decode cX9_reason 37 = .ok (.goto 30, 3) := by decide +kernel
theorem dX9_reason_40 : decode cX9_reason 40 = .ok (.iload_n 1, 1) := by decide +kernel
theorem dX9_reason_41 : decode cX9_reason 41 = .ok (.ifCond .ne 10, 3) := by decide +kernel
theorem dX9_reason_44 : decode cX9_reason 44 = .ok (.aload_n 0, 1) := by decide +kernel
theorem dX9_reason_45 : decode cX9_reason 45 = .ok (.getfield 51, 3) := by decide +kernel
theorem dX9_reason_48 : decode cX9_reason 48 = .ok (.goto 19, 3) := by decide +kernel
theorem dX9_reason_51 : decode cX9_reason 51 = .ok (.iload_n 1, 1) := by decide +kernel
theorem dX9_reason_52 : decode cX9_reason 52 = .ok (.iconst 1, 1) := by decide +kernel
theorem dX9_reason_53 : decode cX9_reason 53 = .ok (.if_icmp .ne 10, 3) := by decide +kernel
theorem dX9_reason_56 : decode cX9_reason 56 = .ok (.aload_n 0, 1) := by decide +kernel
theorem dX9_reason_57 : decode cX9_reason 57 = .ok (.getfield 54, 3) := by decide +kernel
theorem dX9_reason_60 : decode cX9_reason 60 = .ok (.goto 7, 3) := by decide +kernel
theorem dX9_reason_63 : decode cX9_reason 63 = .ok (.aload_n 0, 1) := by decide +kernel
theorem dX9_reason_64 : decode cX9_reason 64 = .ok (.getfield 57, 3) := by decide +kernel
theorem dX9_reason_67 : decode cX9_reason 67 = .ok (.ireturn, 1) := by decide +kernel
theorem dX9_writes_0 : decode cX9_writes 0 = .ok (.aload_n 0, 1) := by decide +kernel
theorem dX9_writes_1 : decode cX9_writes 1 = .ok (.getfield 28, 3) := by decide +kernel
theorem dX9_writes_4 : decode cX9_writes 4 = .ok (.aload_n 0, 1) := by decide +kernel
theorem dX9_writes_5 : decode cX9_writes 5 = .ok (.getfield 214, 3) := by decide +kernel
theorem dX9_writes_8 : decode cX9_writes 8 = .ok (.iload_n 1, 1) := by decide +kernel
theorem dX9_writes_9 : decode cX9_writes 9 = .ok (.iastore, 1) := by decide +kernel
theorem dX9_writes_10 : decode cX9_writes 10 = .ok (.aload_n 0, 1) := by decide +kernel
theorem dX9_writes_11 : decode cX9_writes 11 = .ok (.dup, 1) := by decide +kernel
theorem dX9_writes_12 : decode cX9_writes 12 = .ok (.getfield 214, 3) := by decide +kernel
theorem dX9_writes_15 : decode cX9_writes 15 = .ok (.iconst 1, 1) := by decide +kernel
theorem dX9_writes_16 : decode cX9_writes 16 = .ok (.iadd, 1) := by decide +kernel
theorem dX9_writes_17 : decode cX9_writes 17 = .ok (.putfield 214, 3) := by decide +kernel
theorem dX9_writes_20 : decode cX9_writes 20 = .ok (.return_, 1) := by decide +kernel
theorem dX9_writesNumber_0 : decode cX9_writesNumber 0 = .ok (.iload_n 1, 1) := by decide +kernel
theorem dX9_writesNumber_1 : decode cX9_writesNumber 1 = .ok (.sipush 999, 3) := by decide +kernel
theorem dX9_writesNumber_4 : decode cX9_writesNumber 4 = .ok (.if_icmp .le 15, 3) := by decide +kernel
theorem dX9_writesNumber_7 : decode cX9_writesNumber 7 = .ok (.aload_n 0, 1) := by decide +kernel
theorem dX9_writesNumber_8 : decode cX9_writesNumber 8 = .ok (.bipush 48, 2) := by decide +kernel
theorem dX9_writesNumber_10 : decode cX9_writesNumber 10 = .ok (.iload_n 1, 1) := by decide +kernel
theorem dX9_writesNumber_11 : decode cX9_writesNumber 11 = .ok (.sipush 1000, 3) := by decide +kernel
theorem dX9_writesNumber_14 : decode cX9_writesNumber 14 = .ok (.idiv, 1) := by decide +kernel
theorem dX9_writesNumber_15 : decode cX9_writesNumber 15 = .ok (.iadd, 1) := by decide +kernel
theorem dX9_writesNumber_16 : decode cX9_writesNumber 16 = .ok (.invokevirtual 217, 3) := by decide +kernel
theorem dX9_writesNumber_19 : decode cX9_writesNumber 19 = .ok (.iload_n 1, 1) := by decide +kernel
theorem dX9_writesNumber_20 : decode cX9_writesNumber 20 = .ok (.bipush 99, 2) := by decide +kernel
theorem dX9_writesNumber_22 : decode cX9_writesNumber 22 = .ok (.if_icmp .le 17, 3) := by decide +kernel
theorem dX9_writesNumber_25 : decode cX9_writesNumber 25 = .ok (.aload_n 0, 1) := by decide +kernel
theorem dX9_writesNumber_26 : decode cX9_writesNumber 26 = .ok (.bipush 48, 2) := by decide +kernel
theorem dX9_writesNumber_28 : decode cX9_writesNumber 28 = .ok (.iload_n 1, 1) := by decide +kernel
theorem dX9_writesNumber_29 : decode cX9_writesNumber 29 = .ok (.bipush 100, 2) := by decide +kernel
theorem dX9_writesNumber_31 : decode cX9_writesNumber 31 = .ok (.idiv, 1) := by decide +kernel
theorem dX9_writesNumber_32 : decode cX9_writesNumber 32 = .ok (.bipush 10, 2) := by decide +kernel
theorem dX9_writesNumber_34 : decode cX9_writesNumber 34 = .ok (.irem, 1) := by decide +kernel
theorem dX9_writesNumber_35 : decode cX9_writesNumber 35 = .ok (.iadd, 1) := by decide +kernel
theorem dX9_writesNumber_36 : decode cX9_writesNumber 36 = .ok (.invokevirtual 217, 3) := by decide +kernel
theorem dX9_writesNumber_39 : decode cX9_writesNumber 39 = .ok (.iload_n 1, 1) := by decide +kernel
theorem dX9_writesNumber_40 : decode cX9_writesNumber 40 = .ok (.bipush 9, 2) := by decide +kernel
theorem dX9_writesNumber_42 : decode cX9_writesNumber 42 = .ok (.if_icmp .le 17, 3) := by decide +kernel
theorem dX9_writesNumber_45 : decode cX9_writesNumber 45 = .ok (.aload_n 0, 1) := by decide +kernel
theorem dX9_writesNumber_46 : decode cX9_writesNumber 46 = .ok (.bipush 48, 2) := by decide +kernel
theorem dX9_writesNumber_48 : decode cX9_writesNumber 48 = .ok (.iload_n 1, 1) := by decide +kernel
theorem dX9_writesNumber_49 : decode cX9_writesNumber 49 = .ok (.bipush 10, 2) := by decide +kernel
theorem dX9_writesNumber_51 : decode cX9_writesNumber 51 = .ok (.idiv, 1) := by decide +kernel
theorem dX9_writesNumber_52 : decode cX9_writesNumber 52 = .ok (.bipush 10, 2) := by decide +kernel
theorem dX9_writesNumber_54 : decode cX9_writesNumber 54 = .ok (.irem, 1) := by decide +kernel
theorem dX9_writesNumber_55 : decode cX9_writesNumber 55 = .ok (.iadd, 1) := by decide +kernel
theorem dX9_writesNumber_56 : decode cX9_writesNumber 56 = .ok (.invokevirtual 217, 3) := by decide +kernel
theorem dX9_writesNumber_59 : decode cX9_writesNumber 59 = .ok (.aload_n 0, 1) := by decide +kernel
theorem dX9_writesNumber_60 : decode cX9_writesNumber 60 = .ok (.bipush 48, 2) := by decide +kernel
theorem dX9_writesNumber_62 : decode cX9_writesNumber 62 = .ok (.iload_n 1, 1) := by decide +kernel
theorem dX9_writesNumber_63 : decode cX9_writesNumber 63 = .ok (.bipush 10, 2) := by decide +kernel
theorem dX9_writesNumber_65 : decode cX9_writesNumber 65 = .ok (.irem, 1) := by decide +kernel
theorem dX9_writesNumber_66 : decode cX9_writesNumber 66 = .ok (.iadd, 1) := by decide +kernel
theorem dX9_writesNumber_67 : decode cX9_writesNumber 67 = .ok (.invokevirtual 217, 3) := by decide +kernel
theorem dX9_writesNumber_70 : decode cX9_writesNumber 70 = .ok (.return_, 1) := by decide +kernel
theorem dX9_line_0 : decode cX9_line 0 = .ok (.aload_n 0, 1) := by decide +kernel
theorem dX9_line_1 : decode cX9_line 1 = .ok (.aload_n 0, 1) := by decide +kernel
theorem dX9_line_2 : decode cX9_line 2 = .ok (.iload_n 1, 1) := by decide +kernel
theorem dX9_line_3 : decode cX9_line 3 = .ok (.invokevirtual 105, 3) := by decide +kernel
theorem dX9_line_6 : decode cX9_line 6 = .ok (.ifCond .eq 7, 3) := by decide +kernel
theorem dX9_line_9 : decode cX9_line 9 = .ok (.iconst 0, 1) := by decide +kernel
theorem dX9_line_10 : decode cX9_line 10 = .ok (.goto 4, 3) := by decide +kernel
theorem dX9_line_13 : decode cX9_line 13 = .ok (.iconst 1, 1) := by decide +kernel
theorem dX9_line_14 : decode cX9_line 14 = .ok (.putfield 35, 3) := by decide +kernel
theorem dX9_line_17 : decode cX9_line 17 = .ok (.aload_n 0, 1) := by decide +kernel
theorem dX9_line_18 : decode cX9_line 18 = .ok (.getfield 35, 3) := by decide +kernel
theorem dX9_line_21 : decode cX9_line 21 = .ok (.ifCond .le 5, 3) := by decide +kernel
theorem dX9_line_24 : decode cX9_line 24 = .ok (.iconst 0, 1) := by decide +kernel
theorem dX9_line_25 : decode cX9_line 25 = .ok (.ireturn, 1) := by decide +kernel
theorem dX9_line_26 : decode cX9_line 26 = .ok (.aload_n 0, 1) := by decide +kernel
theorem dX9_line_27 : decode cX9_line 27 = .ok (.iconst 0, 1) := by decide +kernel
theorem dX9_line_28 : decode cX9_line 28 = .ok (.putfield 214, 3) := by decide +kernel
theorem dX9_line_31 : decode cX9_line 31 = .ok (.aload_n 0, 1) := by decide +kernel
theorem dX9_line_32 : decode cX9_line 32 = .ok (.aload_n 0, 1) := by decide +kernel
theorem dX9_line_33 : decode cX9_line 33 = .ok (.iload_n 1, 1) := by decide +kernel
theorem dX9_line_34 : decode cX9_line 34 = .ok (.iconst 0, 1) := by decide +kernel
theorem dX9_line_35 : decode cX9_line 35 = .ok (.invokevirtual 67, 3) := by decide +kernel
theorem dX9_line_38 : decode cX9_line 38 = .ok (.invokevirtual 220, 3) := by decide +kernel
theorem dX9_line_41 : decode cX9_line 41 = .ok (.aload_n 0, 1) := by decide +kernel
theorem dX9_line_42 : decode cX9_line 42 = .ok (.bipush 58, 2) := by decide +kernel
theorem dX9_line_44 : decode cX9_line 44 = .ok (.invokevirtual 217, 3) := by decide +kernel
theorem dX9_line_47 : decode cX9_line 47 = .ok (.aload_n 0, 1) := by decide +kernel
theorem dX9_line_48 : decode cX9_line 48 = .ok (.aload_n 0, 1) := by decide +kernel
theorem dX9_line_49 : decode cX9_line 49 = .ok (.iload_n 1, 1) := by decide +kernel
theorem dX9_line_50 : decode cX9_line 50 = .ok (.iconst 1, 1) := by decide +kernel
theorem dX9_line_51 : decode cX9_line 51 = .ok (.invokevirtual 67, 3) := by decide +kernel
theorem dX9_line_54 : decode cX9_line 54 = .ok (.invokevirtual 220, 3) := by decide +kernel
theorem dX9_line_57 : decode cX9_line 57 = .ok (.aload_n 0, 1) := by decide +kernel
theorem dX9_line_58 : decode cX9_line 58 = .ok (.iload_n 1, 1) := by decide +kernel
theorem dX9_line_59 : decode cX9_line 59 = .ok (.iconst 1, 1) := by decide +kernel
theorem dX9_line_60 : decode cX9_line 60 = .ok (.invokevirtual 67, 3) := by decide +kernel
theorem dX9_line_63 : decode cX9_line 63 = .ok (.ifCond .ne 8, 3) := by decide +kernel
theorem dX9_line_66 : decode cX9_line 66 = .ok (.aload_n 0, 1) := by decide +kernel
theorem dX9_line_67 : decode cX9_line 67 = .ok (.getfield 214, 3) := by decide +kernel
theorem dX9_line_70 : decode cX9_line 70 = .ok (.ireturn, 1) := by decide +kernel
theorem dX9_line_71 : decode cX9_line 71 = .ok (.aload_n 0, 1) := by decide +kernel
theorem dX9_line_72 : decode cX9_line 72 = .ok (.bipush 35, 2) := by decide +kernel
theorem dX9_line_74 : decode cX9_line 74 = .ok (.invokevirtual 217, 3) := by decide +kernel
theorem dX9_line_77 : decode cX9_line 77 = .ok (.aload_n 0, 1) := by decide +kernel
theorem dX9_line_78 : decode cX9_line 78 = .ok (.aload_n 0, 1) := by decide +kernel
theorem dX9_line_79 : decode cX9_line 79 = .ok (.iload_n 1, 1) := by decide +kernel
theorem dX9_line_80 : decode cX9_line 80 = .ok (.iconst 3, 1) := by decide +kernel
theorem dX9_line_81 : decode cX9_line 81 = .ok (.invokevirtual 67, 3) := by decide +kernel
theorem dX9_line_84 : decode cX9_line 84 = .ok (.invokevirtual 220, 3) := by decide +kernel
theorem dX9_line_87 : decode cX9_line 87 = .ok (.aload_n 0, 1) := by decide +kernel
theorem dX9_line_88 : decode cX9_line 88 = .ok (.bipush 109, 2) := by decide +kernel
theorem dX9_line_90 : decode cX9_line 90 = .ok (.invokevirtual 217, 3) := by decide +kernel
theorem dX9_line_93 : decode cX9_line 93 = .ok (.aload_n 0, 1) := by decide +kernel
theorem dX9_line_94 : decode cX9_line 94 = .ok (.aload_n 0, 1) := by decide +kernel
theorem dX9_line_95 : decode cX9_line 95 = .ok (.iload_n 1, 1) := by decide +kernel
theorem dX9_line_96 : decode cX9_line 96 = .ok (.iconst 4, 1) := by decide +kernel
theorem dX9_line_97 : decode cX9_line 97 = .ok (.invokevirtual 67, 3) := by decide +kernel
theorem dX9_line_100 : decode cX9_line 100 = .ok (.invokevirtual 220, 3) := by decide +kernel
theorem dX9_line_103 : decode cX9_line 103 = .ok (.aload_n 0, 1) := by decide +kernel
theorem dX9_line_104 : decode cX9_line 104 = .ok (.iload_n 1, 1) := by decide +kernel
theorem dX9_line_105 : decode cX9_line 105 = .ok (.iconst 2, 1) := by decide +kernel
theorem dX9_line_106 : decode cX9_line 106 = .ok (.invokevirtual 67, 3) := by decide +kernel
theorem dX9_line_109 : decode cX9_line 109 = .ok (.ifCond .ne 8, 3) := by decide +kernel
theorem dX9_line_112 : decode cX9_line 112 = .ok (.aload_n 0, 1) := by decide +kernel
theorem dX9_line_113 : decode cX9_line 113 = .ok (.getfield 214, 3) := by decide +kernel
theorem dX9_line_116 : decode cX9_line 116 = .ok (.ireturn, 1) := by decide +kernel
theorem dX9_line_117 : decode cX9_line 117 = .ok (.aload_n 0, 1) := by decide +kernel
theorem dX9_line_118 : decode cX9_line 118 = .ok (.bipush 104, 2) := by decide +kernel
theorem dX9_line_120 : decode cX9_line 120 = .ok (.invokevirtual 217, 3) := by decide +kernel
theorem dX9_line_123 : decode cX9_line 123 = .ok (.aload_n 0, 1) := by decide +kernel
theorem dX9_line_124 : decode cX9_line 124 = .ok (.aload_n 0, 1) := by decide +kernel
theorem dX9_line_125 : decode cX9_line 125 = .ok (.iload_n 1, 1) := by decide +kernel
theorem dX9_line_126 : decode cX9_line 126 = .ok (.iconst 2, 1) := by decide +kernel
theorem dX9_line_127 : decode cX9_line 127 = .ok (.invokevirtual 67, 3) := by decide +kernel
theorem dX9_line_130 : decode cX9_line 130 = .ok (.invokevirtual 220, 3) := by decide +kernel
theorem dX9_line_133 : decode cX9_line 133 = .ok (.aload_n 0, 1) := by decide +kernel
theorem dX9_line_134 : decode cX9_line 134 = .ok (.getfield 214, 3) := by decide +kernel
theorem dX9_line_137 : decode cX9_line 137 = .ok (.ireturn, 1) := by decide +kernel
theorem dX9_panel_0 : decode cX9_panel 0 = .ok (.aload_n 0, 1) := by decide +kernel
theorem dX9_panel_1 : decode cX9_panel 1 = .ok (.iconst 0, 1) := by decide +kernel
theorem dX9_panel_2 : decode cX9_panel 2 = .ok (.putfield 35, 3) := by decide +kernel
theorem dX9_panel_5 : decode cX9_panel 5 = .ok (.aload_n 0, 1) := by decide +kernel
theorem dX9_panel_6 : decode cX9_panel 6 = .ok (.iconst 0, 1) := by decide +kernel
theorem dX9_panel_7 : decode cX9_panel 7 = .ok (.putfield 214, 3) := by decide +kernel
theorem dX9_panel_10 : decode cX9_panel 10 = .ok (.iconst 0, 1) := by decide +kernel
theorem dX9_panel_11 : decode cX9_panel 11 = .ok (.istore_n 1, 1) := by decide +kernel
theorem dX9_panel_12 : decode cX9_panel 12 = .ok (.iload_n 1, 1) := by decide +kernel
theorem dX9_panel_13 : decode cX9_panel 13 = .ok (.aload_n 0, 1) := by decide +kernel
theorem dX9_panel_14 : decode cX9_panel 14 = .ok (.getfield 7, 3) := by decide +kernel
theorem dX9_panel_17 : decode cX9_panel 17 = .ok (.iconst 1, 1) := by decide +kernel
theorem dX9_panel_18 : decode cX9_panel 18 = .ok (.iaload, 1) := by decide +kernel
theorem dX9_panel_19 : decode cX9_panel 19 = .ok (.if_icmp .ge 62, 3) := by decide +kernel
theorem dX9_panel_22 : decode cX9_panel 22 = .ok (.iload_n 1, 1) := by decide +kernel
theorem dX9_panel_23 : decode cX9_panel 23 = .ok (.ifCond .le 9, 3) := by decide +kernel
theorem dX9_panel_26 : decode cX9_panel 26 = .ok (.aload_n 0, 1) := by decide +kernel
theorem dX9_panel_27 : decode cX9_panel 27 = .ok (.bipush 32, 2) := by decide +kernel
theorem dX9_panel_29 : decode cX9_panel 29 = .ok (.invokevirtual 217, 3) := by decide +kernel
theorem dX9_panel_32 : decode cX9_panel 32 = .ok (.aload_n 0, 1) := by decide +kernel
theorem dX9_panel_33 : decode cX9_panel 33 = .ok (.aload_n 0, 1) := by decide +kernel
theorem dX9_panel_34 : decode cX9_panel 34 = .ok (.getfield 7, 3) := by decide +kernel
theorem dX9_panel_37 : decode cX9_panel 37 = .ok (.bipush 63, 2) := by decide +kernel
theorem dX9_panel_39 : decode cX9_panel 39 = .ok (.iconst 2, 1) := by decide +kernel
theorem dX9_panel_40 : decode cX9_panel 40 = .ok (.iload_n 1, 1) := by decide +kernel
theorem dX9_panel_41 : decode cX9_panel 41 = .ok (.imul, 1) := by decide +kernel
theorem dX9_panel_42 : decode cX9_panel 42 = .ok (.iadd, 1) := by decide +kernel
theorem dX9_panel_43 : decode cX9_panel 43 = .ok (.iconst 1, 1) := by decide +kernel
theorem dX9_panel_44 : decode cX9_panel 44 = .ok (.iadd, 1) := by decide +kernel
theorem dX9_panel_45 : decode cX9_panel 45 = .ok (.iaload, 1) := by decide +kernel
theorem dX9_panel_46 : decode cX9_panel 46 = .ok (.iconst 1, 1) := by decide +kernel
theorem dX9_panel_47 : decode cX9_panel 47 = .ok (.if_icmp .ne 8, 3) := by decide +kernel
theorem dX9_panel_50 : decode cX9_panel 50 = .ok (.bipush 116, 2) := by decide +kernel
theorem dX9_panel_52 : decode cX9_panel 52 = .ok (.goto 5, 3) := by decide +kernel
theorem dX9_panel_55 : decode cX9_panel 55 = .ok (.bipush 109, 2) := by decide +kernel
theorem dX9_panel_57 : decode cX9_panel 57 = .ok (.invokevirtual 217, 3) := by decide +kernel
theorem dX9_panel_60 : decode cX9_panel 60 = .ok (.aload_n 0, 1) := by decide +kernel
theorem dX9_panel_61 : decode cX9_panel 61 = .ok (.aload_n 0, 1) := by decide +kernel
theorem dX9_panel_62 : decode cX9_panel 62 = .ok (.getfield 7, 3) := by decide +kernel
theorem dX9_panel_65 : decode cX9_panel 65 = .ok (.bipush 63, 2) := by decide +kernel
theorem dX9_panel_67 : decode cX9_panel 67 = .ok (.iconst 2, 1) := by decide +kernel
theorem dX9_panel_68 : decode cX9_panel 68 = .ok (.iload_n 1, 1) := by decide +kernel
theorem dX9_panel_69 : decode cX9_panel 69 = .ok (.imul, 1) := by decide +kernel
theorem dX9_panel_70 : decode cX9_panel 70 = .ok (.iadd, 1) := by decide +kernel
theorem dX9_panel_71 : decode cX9_panel 71 = .ok (.iaload, 1) := by decide +kernel
theorem dX9_panel_72 : decode cX9_panel 72 = .ok (.invokevirtual 220, 3) := by decide +kernel
theorem dX9_panel_75 : decode cX9_panel 75 = .ok (.iinc 1 1, 3) := by decide +kernel
theorem dX9_panel_78 : decode cX9_panel 78 = .ok (.goto (-66), 3) := by decide +kernel
theorem dX9_panel_81 : decode cX9_panel 81 = .ok (.aload_n 0, 1) := by decide +kernel
theorem dX9_panel_82 : decode cX9_panel 82 = .ok (.getfield 214, 3) := by decide +kernel
theorem dX9_panel_85 : decode cX9_panel 85 = .ok (.ireturn, 1) := by decide +kernel
theorem dX9_character_0 : decode cX9_character 0 = .ok (.aload_n 0, 1) := by decide +kernel
theorem dX9_character_1 : decode cX9_character 1 = .ok (.iload_n 1, 1) := by decide +kernel
theorem dX9_character_2 : decode cX9_character 2 = .ok (.iconst 0, 1) := by decide +kernel
theorem dX9_character_3 : decode cX9_character 3 = .ok (.aload_n 0, 1) := by decide +kernel
theorem dX9_character_4 : decode cX9_character 4 = .ok (.getfield 214, 3) := by decide +kernel
theorem dX9_character_7 : decode cX9_character 7 = .ok (.iconst 1, 1) := by decide +kernel
theorem dX9_character_8 : decode cX9_character 8 = .ok (.isub, 1) := by decide +kernel
theorem dX9_character_9 : decode cX9_character 9 = .ok (.invokestatic 63, 3) := by decide +kernel
theorem dX9_character_12 : decode cX9_character 12 = .ok (.ifCond .eq 7, 3) := by decide +kernel
theorem dX9_character_15 : decode cX9_character 15 = .ok (.iconst 0, 1) := by decide +kernel
theorem dX9_character_16 : decode cX9_character 16 = .ok (.goto 4, 3) := by decide +kernel
theorem dX9_character_19 : decode cX9_character 19 = .ok (.iconst 1, 1) := by decide +kernel
theorem dX9_character_20 : decode cX9_character 20 = .ok (.putfield 35, 3) := by decide +kernel
theorem dX9_character_23 : decode cX9_character 23 = .ok (.aload_n 0, 1) := by decide +kernel
theorem dX9_character_24 : decode cX9_character 24 = .ok (.getfield 35, 3) := by decide +kernel
theorem dX9_character_27 : decode cX9_character 27 = .ok (.ifCond .le 7, 3) := by decide +kernel
theorem dX9_character_30 : decode cX9_character 30 = .ok (.iconst 0, 1) := by decide +kernel
theorem dX9_character_31 : decode cX9_character 31 = .ok (.goto 10, 3) := by decide +kernel
theorem dX9_character_34 : decode cX9_character 34 = .ok (.aload_n 0, 1) := by decide +kernel
theorem dX9_character_35 : decode cX9_character 35 = .ok (.getfield 28, 3) := by decide +kernel
theorem dX9_character_38 : decode cX9_character 38 = .ok (.iload_n 1, 1) := by decide +kernel
theorem dX9_character_39 : decode cX9_character 39 = .ok (.iaload, 1) := by decide +kernel
theorem dX9_character_40 : decode cX9_character 40 = .ok (.i2c, 1) := by decide +kernel
theorem dX9_character_41 : decode cX9_character 41 = .ok (.ireturn, 1) := by decide +kernel
theorem dX9_meanNote_0 : decode cX9_meanNote 0 = .ok (.iconst 0, 1) := by decide +kernel
theorem dX9_meanNote_1 : decode cX9_meanNote 1 = .ok (.istore_n 1, 1) := by decide +kernel
theorem dX9_meanNote_2 : decode cX9_meanNote 2 = .ok (.iconst 0, 1) := by decide +kernel
theorem dX9_meanNote_3 : decode cX9_meanNote 3 = .ok (.istore_n 2, 1) := by decide +kernel
theorem dX9_meanNote_4 : decode cX9_meanNote 4 = .ok (.iconst 0, 1) := by decide +kernel
theorem dX9_meanNote_5 : decode cX9_meanNote 5 = .ok (.istore_n 3, 1) := by decide +kernel
theorem dX9_meanNote_6 : decode cX9_meanNote 6 = .ok (.iload_n 3, 1) := by decide +kernel
theorem dX9_meanNote_7 : decode cX9_meanNote 7 = .ok (.aload_n 0, 1) := by decide +kernel
theorem dX9_meanNote_8 : decode cX9_meanNote 8 = .ok (.getfield 7, 3) := by decide +kernel
theorem dX9_meanNote_11 : decode cX9_meanNote 11 = .ok (.iconst 0, 1) := by decide +kernel
theorem dX9_meanNote_12 : decode cX9_meanNote 12 = .ok (.iaload, 1) := by decide +kernel
theorem dX9_meanNote_13 : decode cX9_meanNote 13 = .ok (.if_icmp .ge 35, 3) := by decide +kernel
theorem dX9_meanNote_16 : decode cX9_meanNote 16 = .ok (.iload_n 1, 1) := by decide +kernel
theorem dX9_meanNote_17 : decode cX9_meanNote 17 = .ok (.aload_n 0, 1) := by decide +kernel
theorem dX9_meanNote_18 : decode cX9_meanNote 18 = .ok (.iload_n 3, 1) := by decide +kernel
theorem dX9_meanNote_19 : decode cX9_meanNote 19 = .ok (.iconst 0, 1) := by decide +kernel
theorem dX9_meanNote_20 : decode cX9_meanNote 20 = .ok (.invokevirtual 121, 3) := by decide +kernel
theorem dX9_meanNote_23 : decode cX9_meanNote 23 = .ok (.iadd, 1) := by decide +kernel
theorem dX9_meanNote_24 : decode cX9_meanNote 24 = .ok (.istore_n 1, 1) := by decide +kernel
theorem dX9_meanNote_25 : decode cX9_meanNote 25 = .ok (.iload_n 2, 1) := by decide +kernel
theorem dX9_meanNote_26 : decode cX9_meanNote 26 = .ok (.aload_n 0, 1) := by decide +kernel
theorem dX9_meanNote_27 : decode cX9_meanNote 27 = .ok (.iload_n 3, 1) := by decide +kernel
theorem dX9_meanNote_28 : decode cX9_meanNote 28 = .ok (.iconst 1, 1) := by decide +kernel
theorem dX9_meanNote_29 : decode cX9_meanNote 29 = .ok (.invokevirtual 67, 3) := by decide +kernel
theorem dX9_meanNote_32 : decode cX9_meanNote 32 = .ok (.ifCond .le 7, 3) := by decide +kernel
theorem dX9_meanNote_35 : decode cX9_meanNote 35 = .ok (.iconst 1, 1) := by decide +kernel
theorem dX9_meanNote_36 : decode cX9_meanNote 36 = .ok (.goto 4, 3) := by decide +kernel
theorem dX9_meanNote_39 : decode cX9_meanNote 39 = .ok (.iconst 0, 1) := by decide +kernel
theorem dX9_meanNote_40 : decode cX9_meanNote 40 = .ok (.iadd, 1) := by decide +kernel
theorem dX9_meanNote_41 : decode cX9_meanNote 41 = .ok (.istore_n 2, 1) := by decide +kernel
theorem dX9_meanNote_42 : decode cX9_meanNote 42 = .ok (.iinc 3 1, 3) := by decide +kernel
theorem dX9_meanNote_45 : decode cX9_meanNote 45 = .ok (.goto (-39), 3) := by decide +kernel
theorem dX9_meanNote_48 : decode cX9_meanNote 48 = .ok (.aload_n 0, 1) := by decide +kernel
theorem dX9_meanNote_49 : decode cX9_meanNote 49 = .ok (.iload_n 2, 1) := by decide +kernel
theorem dX9_meanNote_50 : decode cX9_meanNote 50 = .ok (.ifCond .ne 7, 3) := by decide +kernel
theorem dX9_meanNote_53 : decode cX9_meanNote 53 = .ok (.iconst 1, 1) := by decide +kernel
theorem dX9_meanNote_54 : decode cX9_meanNote 54 = .ok (.goto 4, 3) := by decide +kernel
theorem dX9_meanNote_57 : decode cX9_meanNote 57 = .ok (.iconst 0, 1) := by decide +kernel
theorem dX9_meanNote_58 : decode cX9_meanNote 58 = .ok (.putfield 35, 3) := by decide +kernel
theorem dX9_meanNote_61 : decode cX9_meanNote 61 = .ok (.iload_n 2, 1) := by decide +kernel
theorem dX9_meanNote_62 : decode cX9_meanNote 62 = .ok (.ifCond .ne 7, 3) := by decide +kernel
theorem dX9_meanNote_65 : decode cX9_meanNote 65 = .ok (.dconst 0, 1) := by decide +kernel
theorem dX9_meanNote_66 : decode cX9_meanNote 66 = .ok (.goto 8, 3) := by decide +kernel
theorem dX9_meanNote_69 : decode cX9_meanNote 69 = .ok (.iload_n 1, 1) := by decide +kernel
theorem dX9_meanNote_70 : decode cX9_meanNote 70 = .ok (.i2d, 1) := by decide +kernel
theorem dX9_meanNote_71 : decode cX9_meanNote 71 = .ok (.iload_n 2, 1) := by decide +kernel
theorem dX9_meanNote_72 : decode cX9_meanNote 72 = .ok (.i2d, 1) := by decide +kernel
theorem dX9_meanNote_73 : decode cX9_meanNote 73 = .ok (.ddiv, 1) := by decide +kernel
theorem dX9_meanNote_74 : decode cX9_meanNote 74 = .ok (.dreturn, 1) := by decide +kernel
theorem dX9_hailShare_0 : decode cX9_hailShare 0 = .ok (.iconst 0, 1) := by decide +kernel
theorem dX9_hailShare_1 : decode cX9_hailShare 1 = .ok (.istore_n 1, 1) := by decide +kernel
theorem dX9_hailShare_2 : decode cX9_hailShare 2 = .ok (.iconst 0, 1) := by decide +kernel
theorem dX9_hailShare_3 : decode cX9_hailShare 3 = .ok (.istore_n 2, 1) := by decide +kernel
theorem dX9_hailShare_4 : decode cX9_hailShare 4 = .ok (.iload_n 2, 1) := by decide +kernel
theorem dX9_hailShare_5 : decode cX9_hailShare 5 = .ok (.aload_n 0, 1) := by decide +kernel
theorem dX9_hailShare_6 : decode cX9_hailShare 6 = .ok (.getfield 7, 3) := by decide +kernel
theorem dX9_hailShare_9 : decode cX9_hailShare 9 = .ok (.iconst 0, 1) := by decide +kernel
theorem dX9_hailShare_10 : decode cX9_hailShare 10 = .ok (.iaload, 1) := by decide +kernel
theorem dX9_hailShare_11 : decode cX9_hailShare 11 = .ok (.if_icmp .ge 18, 3) := by decide +kernel
theorem dX9_hailShare_14 : decode cX9_hailShare 14 = .ok (.iload_n 1, 1) := by decide +kernel
theorem dX9_hailShare_15 : decode cX9_hailShare 15 = .ok (.aload_n 0, 1) := by decide +kernel
theorem dX9_hailShare_16 : decode cX9_hailShare 16 = .ok (.iload_n 2, 1) := by decide +kernel
theorem dX9_hailShare_17 : decode cX9_hailShare 17 = .ok (.iconst 2, 1) := by decide +kernel
theorem dX9_hailShare_18 : decode cX9_hailShare 18 = .ok (.invokevirtual 67, 3) := by decide +kernel
theorem dX9_hailShare_21 : decode cX9_hailShare 21 = .ok (.iadd, 1) := by decide +kernel
theorem dX9_hailShare_22 : decode cX9_hailShare 22 = .ok (.istore_n 1, 1) := by decide +kernel
theorem dX9_hailShare_23 : decode cX9_hailShare 23 = .ok (.iinc 2 1, 3) := by decide +kernel
theorem dX9_hailShare_26 : decode cX9_hailShare 26 = .ok (.goto (-22), 3) := by decide +kernel
theorem dX9_hailShare_29 : decode cX9_hailShare 29 = .ok (.aload_n 0, 1) := by decide +kernel
theorem dX9_hailShare_30 : decode cX9_hailShare 30 = .ok (.aload_n 0, 1) := by decide +kernel
theorem dX9_hailShare_31 : decode cX9_hailShare 31 = .ok (.invokevirtual 180, 3) := by decide +kernel
theorem dX9_hailShare_34 : decode cX9_hailShare 34 = .ok (.ifCond .ne 7, 3) := by decide +kernel
theorem dX9_hailShare_37 : decode cX9_hailShare 37 = .ok (.iconst 1, 1) := by decide +kernel
theorem dX9_hailShare_38 : decode cX9_hailShare 38 = .ok (.goto 4, 3) := by decide +kernel
theorem dX9_hailShare_41 : decode cX9_hailShare 41 = .ok (.iconst 0, 1) := by decide +kernel
theorem dX9_hailShare_42 : decode cX9_hailShare 42 = .ok (.putfield 35, 3) := by decide +kernel
theorem dX9_hailShare_45 : decode cX9_hailShare 45 = .ok (.aload_n 0, 1) := by decide +kernel
theorem dX9_hailShare_46 : decode cX9_hailShare 46 = .ok (.getfield 35, 3) := by decide +kernel
theorem dX9_hailShare_49 : decode cX9_hailShare 49 = .ok (.ifCond .le 7, 3) := by decide +kernel
theorem dX9_hailShare_52 : decode cX9_hailShare 52 = .ok (.fconst 0, 1) := by decide +kernel
theorem dX9_hailShare_53 : decode cX9_hailShare 53 = .ok (.goto 11, 3) := by decide +kernel
theorem dX9_hailShare_56 : decode cX9_hailShare 56 = .ok (.iload_n 1, 1) := by decide +kernel
theorem dX9_hailShare_57 : decode cX9_hailShare 57 = .ok (.i2f, 1) := by decide +kernel
theorem dX9_hailShare_58 : decode cX9_hailShare 58 = .ok (.aload_n 0, 1) := by decide +kernel
theorem dX9_hailShare_59 : decode cX9_hailShare 59 = .ok (.invokevirtual 180, 3) := by decide +kernel
theorem dX9_hailShare_62 : decode cX9_hailShare 62 = .ok (.i2f, 1) := by decide +kernel
theorem dX9_hailShare_63 : decode cX9_hailShare 63 = .ok (.fdiv, 1) := by decide +kernel
theorem dX9_hailShare_64 : decode cX9_hailShare 64 = .ok (.freturn, 1) := by decide +kernel
theorem dX9_account_0 : decode cX9_account 0 = .ok (.aload_n 0, 1) := by decide +kernel
theorem dX9_account_1 : decode cX9_account 1 = .ok (.iconst 0, 1) := by decide +kernel
theorem dX9_account_2 : decode cX9_account 2 = .ok (.putfield 35, 3) := by decide +kernel
theorem dX9_account_5 : decode cX9_account 5 = .ok (.iload_n 1, 1) := by decide +kernel
theorem dX9_account_6 : decode cX9_account 6 = .ok (.tableswitch 144 0 11 #[62, 69, 74, 81, 88, 95, 102, 110, 118, 126, 134, 139], 62) := by decide +kernel
theorem dX9_account_68 : decode cX9_account 68 = .ok (.aload_n 0, 1) := by decide +kernel
theorem dX9_account_69 : decode cX9_account 69 = .ok (.getfield 7, 3) := by decide +kernel
theorem dX9_account_72 : decode cX9_account 72 = .ok (.iconst 0, 1) := by decide +kernel
theorem dX9_account_73 : decode cX9_account 73 = .ok (.iaload, 1) := by decide +kernel
theorem dX9_account_74 : decode cX9_account 74 = .ok (.ireturn, 1) := by decide +kernel
theorem dX9_account_75 : decode cX9_account 75 = .ok (.aload_n 0, 1) := by decide +kernel
theorem dX9_account_76 : decode cX9_account 76 = .ok (.invokevirtual 180, 3) := by decide +kernel
theorem dX9_account_79 : decode cX9_account 79 = .ok (.ireturn, 1) := by decide +kernel
theorem dX9_account_80 : decode cX9_account 80 = .ok (.aload_n 0, 1) := by decide +kernel
theorem dX9_account_81 : decode cX9_account 81 = .ok (.getfield 7, 3) := by decide +kernel
theorem dX9_account_84 : decode cX9_account 84 = .ok (.iconst 2, 1) := by decide +kernel
theorem dX9_account_85 : decode cX9_account 85 = .ok (.iaload, 1) := by decide +kernel
theorem dX9_account_86 : decode cX9_account 86 = .ok (.ireturn, 1) := by decide +kernel
theorem dX9_account_87 : decode cX9_account 87 = .ok (.aload_n 0, 1) := by decide +kernel
theorem dX9_account_88 : decode cX9_account 88 = .ok (.getfield 7, 3) := by decide +kernel
theorem dX9_account_91 : decode cX9_account 91 = .ok (.iconst 1, 1) := by decide +kernel
theorem dX9_account_92 : decode cX9_account 92 = .ok (.iaload, 1) := by decide +kernel
theorem dX9_account_93 : decode cX9_account 93 = .ok (.ireturn, 1) := by decide +kernel
theorem dX9_account_94 : decode cX9_account 94 = .ok (.aload_n 0, 1) := by decide +kernel
theorem dX9_account_95 : decode cX9_account 95 = .ok (.getfield 7, 3) := by decide +kernel
theorem dX9_account_98 : decode cX9_account 98 = .ok (.iconst 3, 1) := by decide +kernel
theorem dX9_account_99 : decode cX9_account 99 = .ok (.iaload, 1) := by decide +kernel
theorem dX9_account_100 : decode cX9_account 100 = .ok (.ireturn, 1) := by decide +kernel
theorem dX9_account_101 : decode cX9_account 101 = .ok (.aload_n 0, 1) := by decide +kernel
theorem dX9_account_102 : decode cX9_account 102 = .ok (.getfield 7, 3) := by decide +kernel
theorem dX9_account_105 : decode cX9_account 105 = .ok (.iconst 4, 1) := by decide +kernel
theorem dX9_account_106 : decode cX9_account 106 = .ok (.iaload, 1) := by decide +kernel
theorem dX9_account_107 : decode cX9_account 107 = .ok (.ireturn, 1) := by decide +kernel
theorem dX9_account_108 : decode cX9_account 108 = .ok (.aload_n 0, 1) := by decide +kernel
theorem dX9_account_109 : decode cX9_account 109 = .ok (.getfield 7, 3) := by decide +kernel
theorem dX9_account_112 : decode cX9_account 112 = .ok (.bipush 7, 2) := by decide +kernel
theorem dX9_account_114 : decode cX9_account 114 = .ok (.iaload, 1) := by decide +kernel
theorem dX9_account_115 : decode cX9_account 115 = .ok (.ireturn, 1) := by decide +kernel
theorem dX9_account_116 : decode cX9_account 116 = .ok (.aload_n 0, 1) := by decide +kernel
theorem dX9_account_117 : decode cX9_account 117 = .ok (.getfield 7, 3) := by decide +kernel
theorem dX9_account_120 : decode cX9_account 120 = .ok (.bipush 8, 2) := by decide +kernel
theorem dX9_account_122 : decode cX9_account 122 = .ok (.iaload, 1) := by decide +kernel
theorem dX9_account_123 : decode cX9_account 123 = .ok (.ireturn, 1) := by decide +kernel
theorem dX9_account_124 : decode cX9_account 124 = .ok (.aload_n 0, 1) := by decide +kernel
theorem dX9_account_125 : decode cX9_account 125 = .ok (.getfield 7, 3) := by decide +kernel
theorem dX9_account_128 : decode cX9_account 128 = .ok (.bipush 9, 2) := by decide +kernel
theorem dX9_account_130 : decode cX9_account 130 = .ok (.iaload, 1) := by decide +kernel
theorem dX9_account_131 : decode cX9_account 131 = .ok (.ireturn, 1) := by decide +kernel
theorem dX9_account_132 : decode cX9_account 132 = .ok (.aload_n 0, 1) := by decide +kernel
theorem dX9_account_133 : decode cX9_account 133 = .ok (.getfield 7, 3) := by decide +kernel
theorem dX9_account_136 : decode cX9_account 136 = .ok (.bipush 10, 2) := by decide +kernel
theorem dX9_account_138 : decode cX9_account 138 = .ok (.iaload, 1) := by decide +kernel
theorem dX9_account_139 : decode cX9_account 139 = .ok (.ireturn, 1) := by decide +kernel
theorem dX9_account_140 : decode cX9_account 140 = .ok (.aload_n 0, 1) := by decide +kernel
theorem dX9_account_141 : decode cX9_account 141 = .ok (.getfield 38, 3) := by decide +kernel
theorem dX9_account_144 : decode cX9_account 144 = .ok (.ireturn, 1) := by decide +kernel
theorem dX9_account_145 : decode cX9_account 145 = .ok (.aload_n 0, 1) := by decide +kernel
theorem dX9_account_146 : decode cX9_account 146 = .ok (.getfield 183, 3) := by decide +kernel
theorem dX9_account_149 : decode cX9_account 149 = .ok (.ireturn, 1) := by decide +kernel
theorem dX9_account_150 : decode cX9_account 150 = .ok (.aload_n 0, 1) := by decide +kernel
theorem dX9_account_151 : decode cX9_account 151 = .ok (.iconst 1, 1) := by decide +kernel
theorem dX9_account_152 : decode cX9_account 152 = .ok (.invokevirtual 60, 3) := by decide +kernel
theorem dX9_account_155 : decode cX9_account 155 = .ok (.ireturn, 1) := by decide +kernel
theorem dX9_undo_0 : decode cX9_undo 0 = .ok (.aload_n 0, 1) := by decide +kernel
theorem dX9_undo_1 : decode cX9_undo 1 = .ok (.iconst 0, 1) := by decide +kernel
theorem dX9_undo_2 : decode cX9_undo 2 = .ok (.putfield 35, 3) := by decide +kernel
theorem dX9_undo_5 : decode cX9_undo 5 = .ok (.aload_n 0, 1) := by decide +kernel
theorem dX9_undo_6 : decode cX9_undo 6 = .ok (.getfield 38, 3) := by decide +kernel
theorem dX9_undo_9 : decode cX9_undo 9 = .ok (.ifCond .ne 9, 3) := by decide +kernel
theorem dX9_undo_12 : decode cX9_undo 12 = .ok (.aload_n 0, 1) := by decide +kernel
theorem dX9_undo_13 : decode cX9_undo 13 = .ok (.iconst 1, 1) := by decide +kernel
theorem dX9_undo_14 : decode cX9_undo 14 = .ok (.invokevirtual 60, 3) := by decide +kernel
theorem dX9_undo_17 : decode cX9_undo 17 = .ok (.ireturn, 1) := by decide +kernel
theorem dX9_undo_18 : decode cX9_undo 18 = .ok (.aload_n 0, 1) := by decide +kernel
theorem dX9_undo_19 : decode cX9_undo 19 = .ok (.dup, 1) := by decide +kernel
theorem dX9_undo_20 : decode cX9_undo 20 = .ok (.getfield 38, 3) := by decide +kernel
theorem dX9_undo_23 : decode cX9_undo 23 = .ok (.iconst 1, 1) := by decide +kernel
theorem dX9_undo_24 : decode cX9_undo 24 = .ok (.isub, 1) := by decide +kernel
theorem dX9_undo_25 : decode cX9_undo 25 = .ok (.putfield 38, 3) := by decide +kernel
theorem dX9_undo_28 : decode cX9_undo 28 = .ok (.iconst 0, 1) := by decide +kernel
theorem dX9_undo_29 : decode cX9_undo 29 = .ok (.istore_n 1, 1) := by decide +kernel
theorem dX9_undo_30 : decode cX9_undo 30 = .ok (.iload_n 1, 1) := by decide +kernel
theorem dX9_undo_31 : decode cX9_undo 31 = .ok (.bipush 107, 2) := by decide +kernel
theorem dX9_undo_33 : decode cX9_undo 33 = .ok (.if_icmp .ge 29, 3) := by decide +kernel
theorem dX9_undo_36 : decode cX9_undo 36 = .ok (.aload_n 0, 1) := by decide +kernel
theorem dX9_undo_37 : decode cX9_undo 37 = .ok (.getfield 7, 3) := by decide +kernel
theorem dX9_undo_40 : decode cX9_undo 40 = .ok (.iload_n 1, 1) := by decide +kernel
theorem dX9_undo_41 : decode cX9_undo 41 = .ok (.aload_n 0, 1) := by decide +kernel
theorem dX9_undo_42 : decode cX9_undo 42 = .ok (.getfield 19, 3) := by decide +kernel
theorem dX9_undo_45 : decode cX9_undo 45 = .ok (.bipush 107, 2) := by decide +kernel
theorem dX9_undo_47 : decode cX9_undo 47 = .ok (.aload_n 0, 1) := by decide +kernel
theorem dX9_undo_48 : decode cX9_undo 48 = .ok (.getfield 38, 3) := by decide +kernel
theorem dX9_undo_51 : decode cX9_undo 51 = .ok (.imul, 1) := by decide +kernel
theorem dX9_undo_52 : decode cX9_undo 52 = .ok (.iload_n 1, 1) := by decide +kernel
theorem dX9_undo_53 : decode cX9_undo 53 = .ok (.iadd, 1) := by decide +kernel
theorem dX9_undo_54 : decode cX9_undo 54 = .ok (.iaload, 1) := by decide +kernel
theorem dX9_undo_55 : decode cX9_undo 55 = .ok (.iastore, 1) := by decide +kernel
theorem dX9_undo_56 : decode cX9_undo 56 = .ok (.iinc 1 1, 3) := by decide +kernel
theorem dX9_undo_59 : decode cX9_undo 59 = .ok (.goto (-29), 3) := by decide +kernel
theorem dX9_undo_62 : decode cX9_undo 62 = .ok (.aload_n 0, 1) := by decide +kernel
theorem dX9_undo_63 : decode cX9_undo 63 = .ok (.getfield 38, 3) := by decide +kernel
theorem dX9_undo_66 : decode cX9_undo 66 = .ok (.ireturn, 1) := by decide +kernel
theorem dX9_save_0 : decode cX9_save 0 = .ok (.aload_n 0, 1) := by decide +kernel
theorem dX9_save_1 : decode cX9_save 1 = .ok (.iconst 0, 1) := by decide +kernel
theorem dX9_save_2 : decode cX9_save 2 = .ok (.putfield 35, 3) := by decide +kernel
theorem dX9_save_5 : decode cX9_save 5 = .ok (.iconst 0, 1) := by decide +kernel
theorem dX9_save_6 : decode cX9_save 6 = .ok (.istore_n 1, 1) := by decide +kernel
theorem dX9_save_7 : decode cX9_save 7 = .ok (.iload_n 1, 1) := by decide +kernel
theorem dX9_save_8 : decode cX9_save 8 = .ok (.bipush 107, 2) := by decide +kernel
theorem dX9_save_10 : decode cX9_save 10 = .ok (.if_icmp .ge 21, 3) := by decide +kernel
theorem dX9_save_13 : decode cX9_save 13 = .ok (.aload_n 0, 1) := by decide +kernel
theorem dX9_save_14 : decode cX9_save 14 = .ok (.getfield 16, 3) := by decide +kernel
theorem dX9_save_17 : decode cX9_save 17 = .ok (.iload_n 1, 1) := by decide +kernel
theorem dX9_save_18 : decode cX9_save 18 = .ok (.aload_n 0, 1) := by decide +kernel
theorem dX9_save_19 : decode cX9_save 19 = .ok (.getfield 7, 3) := by decide +kernel
theorem dX9_save_22 : decode cX9_save 22 = .ok (.iload_n 1, 1) := by decide +kernel
theorem dX9_save_23 : decode cX9_save 23 = .ok (.iaload, 1) := by decide +kernel
theorem dX9_save_24 : decode cX9_save 24 = .ok (.iastore, 1) := by decide +kernel
theorem dX9_save_25 : decode cX9_save 25 = .ok (.iinc 1 1, 3) := by decide +kernel
theorem dX9_save_28 : decode cX9_save 28 = .ok (.goto (-21), 3) := by decide +kernel
theorem dX9_save_31 : decode cX9_save 31 = .ok (.aload_n 0, 1) := by decide +kernel
theorem dX9_save_32 : decode cX9_save 32 = .ok (.iconst 1, 1) := by decide +kernel
theorem dX9_save_33 : decode cX9_save 33 = .ok (.putfield 223, 3) := by decide +kernel
theorem dX9_save_36 : decode cX9_save 36 = .ok (.aload_n 0, 1) := by decide +kernel
theorem dX9_save_37 : decode cX9_save 37 = .ok (.getfield 7, 3) := by decide +kernel
theorem dX9_save_40 : decode cX9_save 40 = .ok (.iconst 0, 1) := by decide +kernel
theorem dX9_save_41 : decode cX9_save 41 = .ok (.iaload, 1) := by decide +kernel
theorem dX9_save_42 : decode cX9_save 42 = .ok (.ireturn, 1) := by decide +kernel
theorem dX9_restore_0 : decode cX9_restore 0 = .ok (.aload_n 0, 1) := by decide +kernel
theorem dX9_restore_1 : decode cX9_restore 1 = .ok (.iconst 0, 1) := by decide +kernel
theorem dX9_restore_2 : decode cX9_restore 2 = .ok (.putfield 35, 3) := by decide +kernel
theorem dX9_restore_5 : decode cX9_restore 5 = .ok (.aload_n 0, 1) := by decide +kernel
theorem dX9_restore_6 : decode cX9_restore 6 = .ok (.getfield 223, 3) := by decide +kernel
theorem dX9_restore_9 : decode cX9_restore 9 = .ok (.ifCond .ne 9, 3) := by decide +kernel
theorem dX9_restore_12 : decode cX9_restore 12 = .ok (.aload_n 0, 1) := by decide +kernel
theorem dX9_restore_13 : decode cX9_restore 13 = .ok (.iconst 1, 1) := by decide +kernel
theorem dX9_restore_14 : decode cX9_restore 14 = .ok (.invokevirtual 60, 3) := by decide +kernel
theorem dX9_restore_17 : decode cX9_restore 17 = .ok (.ireturn, 1) := by decide +kernel
theorem dX9_restore_18 : decode cX9_restore 18 = .ok (.iconst 0, 1) := by decide +kernel
theorem dX9_restore_19 : decode cX9_restore 19 = .ok (.istore_n 1, 1) := by decide +kernel
theorem dX9_restore_20 : decode cX9_restore 20 = .ok (.iload_n 1, 1) := by decide +kernel
theorem dX9_restore_21 : decode cX9_restore 21 = .ok (.bipush 107, 2) := by decide +kernel
theorem dX9_restore_23 : decode cX9_restore 23 = .ok (.if_icmp .ge 21, 3) := by decide +kernel
theorem dX9_restore_26 : decode cX9_restore 26 = .ok (.aload_n 0, 1) := by decide +kernel
theorem dX9_restore_27 : decode cX9_restore 27 = .ok (.getfield 7, 3) := by decide +kernel
theorem dX9_restore_30 : decode cX9_restore 30 = .ok (.iload_n 1, 1) := by decide +kernel
theorem dX9_restore_31 : decode cX9_restore 31 = .ok (.aload_n 0, 1) := by decide +kernel
theorem dX9_restore_32 : decode cX9_restore 32 = .ok (.getfield 16, 3) := by decide +kernel
theorem dX9_restore_35 : decode cX9_restore 35 = .ok (.iload_n 1, 1) := by decide +kernel
theorem dX9_restore_36 : decode cX9_restore 36 = .ok (.iaload, 1) := by decide +kernel
theorem dX9_restore_37 : decode cX9_restore 37 = .ok (.iastore, 1) := by decide +kernel
theorem dX9_restore_38 : decode cX9_restore 38 = .ok (.iinc 1 1, 3) := by decide +kernel
theorem dX9_restore_41 : decode cX9_restore 41 = .ok (.goto (-21), 3) := by decide +kernel
theorem dX9_restore_44 : decode cX9_restore 44 = .ok (.aload_n 0, 1) := by decide +kernel
theorem dX9_restore_45 : decode cX9_restore 45 = .ok (.iconst 0, 1) := by decide +kernel
theorem dX9_restore_46 : decode cX9_restore 46 = .ok (.putfield 38, 3) := by decide +kernel
theorem dX9_restore_49 : decode cX9_restore 49 = .ok (.aload_n 0, 1) := by decide +kernel
theorem dX9_restore_50 : decode cX9_restore 50 = .ok (.getfield 7, 3) := by decide +kernel
theorem dX9_restore_53 : decode cX9_restore 53 = .ok (.iconst 0, 1) := by decide +kernel
theorem dX9_restore_54 : decode cX9_restore 54 = .ok (.iaload, 1) := by decide +kernel
theorem dX9_restore_55 : decode cX9_restore 55 = .ok (.ireturn, 1) := by decide +kernel
