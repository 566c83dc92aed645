theorem dX0_init_0 : decode cX0_init 0 = .ok (.aload_n 0, 1) := by decide +kernel
theorem dX0_init_1 : decode cX0_init 1 = .ok (.invokespecial 3, 3) := by decide +kernel
theorem dX0_init_4 : decode cX0_init 4 = .ok (.aload_n 0, 1) := by decide +kernel
theorem dX0_init_5 : decode cX0_init 5 = .ok (.iconst 0, 1) := by decide +kernel
theorem dX0_init_6 : decode cX0_init 6 = .ok (.putfield 9, 3) := by decide +kernel
theorem dX0_init_9 : decode cX0_init 9 = .ok (.aload_n 0, 1) := by decide +kernel
theorem dX0_init_10 : decode cX0_init 10 = .ok (.iconst 0, 1) := by decide +kernel
theorem dX0_init_11 : decode cX0_init 11 = .ok (.putfield 15, 3) := by decide +kernel
theorem dX0_init_14 : decode cX0_init 14 = .ok (.aload_n 0, 1) := by decide +kernel
theorem dX0_init_15 : decode cX0_init 15 = .ok (.iconst 0, 1) := by decide +kernel
theorem dX0_init_16 : decode cX0_init 16 = .ok (.putfield 18, 3) := by decide +kernel
theorem dX0_init_19 : decode cX0_init 19 = .ok (.aload_n 0, 1) := by decide +kernel
theorem dX0_init_20 : decode cX0_init 20 = .ok (.iconst (-1), 1) := by decide +kernel
theorem dX0_init_21 : decode cX0_init 21 = .ok (.putfield 21, 3) := by decide +kernel
theorem dX0_init_24 : decode cX0_init 24 = .ok (.aload_n 0, 1) := by decide +kernel
theorem dX0_init_25 : decode cX0_init 25 = .ok (.iconst 0, 1) := by decide +kernel
theorem dX0_init_26 : decode cX0_init 26 = .ok (.putfield 24, 3) := by decide +kernel
theorem dX0_init_29 : decode cX0_init 29 = .ok (.aload_n 0, 1) := by decide +kernel
theorem dX0_init_30 : decode cX0_init 30 = .ok (.iconst 0, 1) := by decide +kernel
theorem dX0_init_31 : decode cX0_init 31 = .ok (.putfield 27, 3) := by decide +kernel
theorem dX0_init_34 : decode cX0_init 34 = .ok (.return_, 1) := by decide +kernel
theorem dX0_copy_0 : decode cX0_copy 0 = .ok (.aload_n 0, 1) := by decide +kernel
theorem dX0_copy_1 : decode cX0_copy 1 = .ok (.aload_n 1, 1) := by decide +kernel
theorem dX0_copy_2 : decode cX0_copy 2 = .ok (.getfield 9, 3) := by decide +kernel
theorem dX0_copy_5 : decode cX0_copy 5 = .ok (.putfield 9, 3) := by decide +kernel
theorem dX0_copy_8 : decode cX0_copy 8 = .ok (.aload_n 0, 1) := by decide +kernel
theorem dX0_copy_9 : decode cX0_copy 9 = .ok (.aload_n 1, 1) := by decide +kernel
theorem dX0_copy_10 : decode cX0_copy 10 = .ok (.getfield 15, 3) := by decide +kernel
theorem dX0_copy_13 : decode cX0_copy 13 = .ok (.putfield 15, 3) := by decide +kernel
theorem dX0_copy_16 : decode cX0_copy 16 = .ok (.aload_n 0, 1) := by decide +kernel
theorem dX0_copy_17 : decode cX0_copy 17 = .ok (.aload_n 1, 1) := by decide +kernel
theorem dX0_copy_18 : decode cX0_copy 18 = .ok (.getfield 18, 3) := by decide +kernel
theorem dX0_copy_21 : decode cX0_copy 21 = .ok (.putfield 18, 3) := by decide +kernel
theorem dX0_copy_24 : decode cX0_copy 24 = .ok (.aload_n 0, 1) := by decide +kernel
theorem dX0_copy_25 : decode cX0_copy 25 = .ok (.aload_n 1, 1) := by decide +kernel
theorem dX0_copy_26 : decode cX0_copy 26 = .ok (.invokevirtual 30, 3) := by decide +kernel
theorem dX0_copy_29 : decode cX0_copy 29 = .ok (.return_, 1) := by decide +kernel
theorem dX0_copyVintage_0 : decode cX0_copyVintage 0 = .ok (.aload_n 0, 1) := by decide +kernel
theorem dX0_copyVintage_1 : decode cX0_copyVintage 1 = .ok (.aload_n 1, 1) := by decide +kernel
theorem dX0_copyVintage_2 : decode cX0_copyVintage 2 = .ok (.getfield 21, 3) := by decide +kernel
theorem dX0_copyVintage_5 : decode cX0_copyVintage 5 = .ok (.putfield 21, 3) := by decide +kernel
theorem dX0_copyVintage_8 : decode cX0_copyVintage 8 = .ok (.aload_n 0, 1) := by decide +kernel
theorem dX0_copyVintage_9 : decode cX0_copyVintage 9 = .ok (.aload_n 1, 1) := by decide +kernel
theorem dX0_copyVintage_10 : decode cX0_copyVintage 10 = .ok (.getfield 24, 3) := by decide +kernel
theorem dX0_copyVintage_13 : decode cX0_copyVintage 13 = .ok (.putfield 24, 3) := by decide +kernel
theorem dX0_copyVintage_16 : decode cX0_copyVintage 16 = .ok (.aload_n 0, 1) := by decide +kernel
theorem dX0_copyVintage_17 : decode cX0_copyVintage 17 = .ok (.aload_n 1, 1) := by decide +kernel
theorem dX0_copyVintage_18 : decode cX0_copyVintage 18 = .ok (.getfield 27, 3) := by decide +kernel
theorem dX0_copyVintage_21 : decode cX0_copyVintage 21 = .ok (.putfield 27, 3) := by decide +kernel
theorem dX0_copyVintage_24 : decode cX0_copyVintage 24 = .ok (.return_, 1) := by decide +kernel
theorem dX0_makeEmpty_0 : decode cX0_makeEmpty 0 = .ok (.aload_n 0, 1) := by decide +kernel
theorem dX0_makeEmpty_1 : decode cX0_makeEmpty 1 = .ok (.iconst 0, 1) := by decide +kernel
theorem dX0_makeEmpty_2 : decode cX0_makeEmpty 2 = .ok (.putfield 15, 3) := by decide +kernel
theorem dX0_makeEmpty_5 : decode cX0_makeEmpty 5 = .ok (.aload_n 0, 1) := by decide +kernel
theorem dX0_makeEmpty_6 : decode cX0_makeEmpty 6 = .ok (.iconst 0, 1) := by decide +kernel
theorem dX0_makeEmpty_7 : decode cX0_makeEmpty 7 = .ok (.putfield 18, 3) := by decide +kernel
theorem dX0_makeEmpty_10 : decode cX0_makeEmpty 10 = .ok (.aload_n 0, 1) := by decide +kernel
theorem dX0_makeEmpty_11 : decode cX0_makeEmpty 11 = .ok (.iconst (-1), 1) := by decide +kernel
theorem dX0_makeEmpty_12 : decode cX0_makeEmpty 12 = .ok (.putfield 21, 3) := by decide +kernel
theorem dX0_makeEmpty_15 : decode cX0_makeEmpty 15 = .ok (.aload_n 0, 1) := by decide +kernel
theorem dX0_makeEmpty_16 : decode cX0_makeEmpty 16 = .ok (.iconst 0, 1) := by decide +kernel
theorem dX0_makeEmpty_17 : decode cX0_makeEmpty 17 = .ok (.putfield 24, 3) := by decide +kernel
theorem dX0_makeEmpty_20 : decode cX0_makeEmpty 20 = .ok (.aload_n 0, 1) := by decide +kernel
theorem dX0_makeEmpty_21 : decode cX0_makeEmpty 21 = .ok (.iconst 0, 1) := by decide +kernel
theorem dX0_makeEmpty_22 : decode cX0_makeEmpty 22 = .ok (.putfield 27, 3) := by decide +kernel
theorem dX0_makeEmpty_25 : decode cX0_makeEmpty 25 = .ok (.return_, 1) := by decide +kernel
theorem dX0_isEmpty_0 : decode cX0_isEmpty 0 = .ok (.aload_n 0, 1) := by decide +kernel
theorem dX0_isEmpty_1 : decode cX0_isEmpty 1 = .ok (.getfield 15, 3) := by decide +kernel
theorem dX0_isEmpty_4 : decode cX0_isEmpty 4 = .ok (.ifCond .ne 7, 3) := by decide +kernel
theorem dX0_isEmpty_7 : decode cX0_isEmpty 7 = .ok (.iconst 1, 1) := by decide +kernel
theorem dX0_isEmpty_8 : decode cX0_isEmpty 8 = .ok (.goto 4, 3) := by decide +kernel
theorem dX0_isEmpty_11 : decode cX0_isEmpty 11 = .ok (.iconst 0, 1) := by decide +kernel
theorem dX0_isEmpty_12 : decode cX0_isEmpty 12 = .ok (.ireturn, 1) := by decide +kernel
theorem dX0_isFreeFor_0 : decode cX0_isFreeFor 0 = .ok (.aload_n 0, 1) := by decide +kernel
theorem dX0_isFreeFor_1 : decode cX0_isFreeFor 1 = .ok (.invokevirtual 34, 3) := by decide +kernel
theorem dX0_isFreeFor_4 : decode cX0_isFreeFor 4 = .ok (.ifCond .ne 11, 3) := by decide +kernel
theorem dX0_isFreeFor_7 : decode cX0_isFreeFor 7 = .ok (.aload_n 0, 1) := by decide +kernel
theorem dX0_isFreeFor_8 : decode cX0_isFreeFor 8 = .ok (.getfield 21, 3) := by decide +kernel
theorem dX0_isFreeFor_11 : decode cX0_isFreeFor 11 = .ok (.iload_n 1, 1) := by decide +kernel
theorem dX0_isFreeFor_12 : decode cX0_isFreeFor 12 = .ok (.if_icmp .ne 7, 3) := by decide +kernel
theorem dX0_isFreeFor_15 : decode cX0_isFreeFor 15 = .ok (.iconst 1, 1) := by decide +kernel
theorem dX0_isFreeFor_16 : decode cX0_isFreeFor 16 = .ok (.goto 4, 3) := by decide +kernel
theorem dX0_isFreeFor_19 : decode cX0_isFreeFor 19 = .ok (.iconst 0, 1) := by decide +kernel
theorem dX0_isFreeFor_20 : decode cX0_isFreeFor 20 = .ok (.ireturn, 1) := by decide +kernel
theorem dX0_room_0 : decode cX0_room 0 = .ok (.bipush 20, 2) := by decide +kernel
theorem dX0_room_2 : decode cX0_room 2 = .ok (.aload_n 0, 1) := by decide +kernel
theorem dX0_room_3 : decode cX0_room 3 = .ok (.getfield 15, 3) := by decide +kernel
theorem dX0_room_6 : decode cX0_room 6 = .ok (.isub, 1) := by decide +kernel
theorem dX0_room_7 : decode cX0_room 7 = .ok (.ireturn, 1) := by decide +kernel
theorem dX0_hailPart_0 : decode cX0_hailPart 0 = .ok (.aload_n 0, 1) := by decide +kernel
theorem dX0_hailPart_1 : decode cX0_hailPart 1 = .ok (.iconst 0, 1) := by decide +kernel
theorem dX0_hailPart_2 : decode cX0_hailPart 2 = .ok (.invokevirtual 38, 3) := by decide +kernel
theorem dX0_hailPart_5 : decode cX0_hailPart 5 = .ok (.ireturn, 1) := by decide +kernel
theorem dX0_hailPartWith_0 : decode cX0_hailPartWith 0 = .ok (.aload_n 0, 1) := by decide +kernel
theorem dX0_hailPartWith_1 : decode cX0_hailPartWith 1 = .ok (.getfield 15, 3) := by decide +kernel
theorem dX0_hailPartWith_4 : decode cX0_hailPartWith 4 = .ok (.iload_n 1, 1) := by decide +kernel
theorem dX0_hailPartWith_5 : decode cX0_hailPartWith 5 = .ok (.iadd, 1) := by decide +kernel
theorem dX0_hailPartWith_6 : decode cX0_hailPartWith 6 = .ok (.istore_n 2, 1) := by decide +kernel
theorem dX0_hailPartWith_7 : decode cX0_hailPartWith 7 = .ok (.iload_n 2, 1) := by decide +kernel
theorem dX0_hailPartWith_8 : decode cX0_hailPartWith 8 = .ok (.ifCond .gt 7, 3) := by decide +kernel
theorem dX0_hailPartWith_11 : decode cX0_hailPartWith 11 = .ok (.iconst 0, 1) := by decide +kernel
theorem dX0_hailPartWith_12 : decode cX0_hailPartWith 12 = .ok (.goto 14, 3) := by decide +kernel
theorem dX0_hailPartWith_15 : decode cX0_hailPartWith 15 = .ok (.bipush 100, 2) := by decide +kernel
theorem dX0_hailPartWith_17 : decode cX0_hailPartWith 17 = .ok (.aload_n 0, 1) := by decide +kernel
theorem dX0_hailPartWith_18 : decode cX0_hailPartWith 18 = .ok (.getfield 18, 3) := by decide +kernel
theorem dX0_hailPartWith_21 : decode cX0_hailPartWith 21 = .ok (.iload_n 1, 1) := by decide +kernel
theorem dX0_hailPartWith_22 : decode cX0_hailPartWith 22 = .ok (.iadd, 1) := by decide +kernel
theorem dX0_hailPartWith_23 : decode cX0_hailPartWith 23 = .ok (.imul, 1) := by decide +kernel
theorem dX0_hailPartWith_24 : decode cX0_hailPartWith 24 = .ok (.iload_n 2, 1) := by decide +kernel
theorem dX0_hailPartWith_25 : decode cX0_hailPartWith 25 = .ok (.idiv, 1) := by decide +kernel
theorem dX0_hailPartWith_26 : decode cX0_hailPartWith 26 = .ok (.ireturn, 1) := by decide +kernel
theorem dX0_ageIn_0 : decode cX0_ageIn 0 = .ok (.aload_n 0, 1) := by decide +kernel
theorem dX0_ageIn_1 : decode cX0_ageIn 1 = .ok (.invokevirtual 34, 3) := by decide +kernel
theorem dX0_ageIn_4 : decode cX0_ageIn 4 = .ok (.ifCond .eq 7, 3) := by decide +kernel
theorem dX0_ageIn_7 : decode cX0_ageIn 7 = .ok (.iconst 0, 1) := by decide +kernel
theorem dX0_ageIn_8 : decode cX0_ageIn 8 = .ok (.goto 9, 3) := by decide +kernel
theorem dX0_ageIn_11 : decode cX0_ageIn 11 = .ok (.iload_n 1, 1) := by decide +kernel
theorem dX0_ageIn_12 : decode cX0_ageIn 12 = .ok (.aload_n 0, 1) := by decide +kernel
theorem dX0_ageIn_13 : decode cX0_ageIn 13 = .ok (.getfield 24, 3) := by decide +kernel
theorem dX0_ageIn_16 : decode cX0_ageIn 16 = .ok (.isub, 1) := by decide +kernel
theorem dX0_ageIn_17 : decode cX0_ageIn 17 = .ok (.ireturn, 1) := by decide +kernel
theorem dX0_noteAtAge_0 : decode cX0_noteAtAge 0 = .ok (.aload_n 0, 1) := by decide +kernel
theorem dX0_noteAtAge_1 : decode cX0_noteAtAge 1 = .ok (.aload_n 0, 1) := by decide +kernel
theorem dX0_noteAtAge_2 : decode cX0_noteAtAge 2 = .ok (.getfield 27, 3) := by decide +kernel
theorem dX0_noteAtAge_5 : decode cX0_noteAtAge 5 = .ok (.iload_n 1, 1) := by decide +kernel
theorem dX0_noteAtAge_6 : decode cX0_noteAtAge 6 = .ok (.iconst 2, 1) := by decide +kernel
theorem dX0_noteAtAge_7 : decode cX0_noteAtAge 7 = .ok (.idiv, 1) := by decide +kernel
theorem dX0_noteAtAge_8 : decode cX0_noteAtAge 8 = .ok (.iadd, 1) := by decide +kernel
theorem dX0_noteAtAge_9 : decode cX0_noteAtAge 9 = .ok (.bipush 9, 2) := by decide +kernel
theorem dX0_noteAtAge_11 : decode cX0_noteAtAge 11 = .ok (.invokestatic 42, 3) := by decide +kernel
theorem dX0_noteAtAge_14 : decode cX0_noteAtAge 14 = .ok (.invokevirtual 48, 3) := by decide +kernel
theorem dX0_noteAtAge_17 : decode cX0_noteAtAge 17 = .ok (.ireturn, 1) := by decide +kernel
theorem dX0_noteYearByYear_0 : decode cX0_noteYearByYear 0 = .ok (.aload_n 0, 1) := by decide +kernel
theorem dX0_noteYearByYear_1 : decode cX0_noteYearByYear 1 = .ok (.getfield 27, 3) := by decide +kernel
theorem dX0_noteYearByYear_4 : decode cX0_noteYearByYear 4 = .ok (.istore_n 2, 1) := by decide +kernel
theorem dX0_noteYearByYear_5 : decode cX0_noteYearByYear 5 = .ok (.iconst 1, 1) := by decide +kernel
theorem dX0_noteYearByYear_6 : decode cX0_noteYearByYear 6 = .ok (.istore_n 3, 1) := by decide +kernel
theorem dX0_noteYearByYear_7 : decode cX0_noteYearByYear 7 = .ok (.iload_n 3, 1) := by decide +kernel
theorem dX0_noteYearByYear_8 : decode cX0_noteYearByYear 8 = .ok (.iload_n 1, 1) := by decide +kernel
theorem dX0_noteYearByYear_9 : decode cX0_noteYearByYear 9 = .ok (.if_icmp .gt 24, 3) := by decide +kernel
theorem dX0_noteYearByYear_12 : decode cX0_noteYearByYear 12 = .ok (.iload_n 3, 1) := by decide +kernel
theorem dX0_noteYearByYear_13 : decode cX0_noteYearByYear 13 = .ok (.iconst 2, 1) := by decide +kernel
theorem dX0_noteYearByYear_14 : decode cX0_noteYearByYear 14 = .ok (.irem, 1) := by decide +kernel
theorem dX0_noteYearByYear_15 : decode cX0_noteYearByYear 15 = .ok (.ifCond .ne 12, 3) := by decide +kernel
theorem dX0_noteYearByYear_18 : decode cX0_noteYearByYear 18 = .ok (.iload_n 2, 1) := by decide +kernel
theorem dX0_noteYearByYear_19 : decode cX0_noteYearByYear 19 = .ok (.bipush 9, 2) := by decide +kernel
theorem dX0_noteYearByYear_21 : decode cX0_noteYearByYear 21 = .ok (.if_icmp .ge 6, 3) := by decide +kernel
theorem dX0_noteYearByYear_24 : decode cX0_noteYearByYear 24 = .ok (.iinc 2 1, 3) := by decide +kernel
theorem dX0_noteYearByYear_27 : decode cX0_noteYearByYear 27 = .ok (.iinc 3 1, 3) := by decide +kernel
theorem dX0_noteYearByYear_30 : decode cX0_noteYearByYear 30 = .ok (.goto (-23), 3) := by decide +kernel
theorem dX0_noteYearByYear_33 : decode cX0_noteYearByYear 33 = .ok (.aload_n 0, 1) := by decide +kernel
theorem dX0_noteYearByYear_34 : decode cX0_noteYearByYear 34 = .ok (.iload_n 2, 1) := by decide +kernel
theorem dX0_noteYearByYear_35 : decode cX0_noteYearByYear 35 = .ok (.invokevirtual 48, 3) := by decide +kernel
theorem dX0_noteYearByYear_38 : decode cX0_noteYearByYear 38 = .ok (.ireturn, 1) := by decide +kernel
theorem dX0_noteOfTaste_0 : decode cX0_noteOfTaste 0 = .ok (.iload_n 1, 1) := by decide +kernel
theorem dX0_noteOfTaste_1 : decode cX0_noteOfTaste 1 = .ok (.bipush 100, 2) := by decide +kernel
theorem dX0_noteOfTaste_3 : decode cX0_noteOfTaste 3 = .ok (.aload_n 0, 1) := by decide +kernel
theorem dX0_noteOfTaste_4 : decode cX0_noteOfTaste 4 = .ok (.invokevirtual 51, 3) := by decide +kernel
theorem dX0_noteOfTaste_7 : decode cX0_noteOfTaste 7 = .ok (.isub, 1) := by decide +kernel
theorem dX0_noteOfTaste_8 : decode cX0_noteOfTaste 8 = .ok (.imul, 1) := by decide +kernel
theorem dX0_noteOfTaste_9 : decode cX0_noteOfTaste 9 = .ok (.bipush 100, 2) := by decide +kernel
theorem dX0_noteOfTaste_11 : decode cX0_noteOfTaste 11 = .ok (.idiv, 1) := by decide +kernel
theorem dX0_noteOfTaste_12 : decode cX0_noteOfTaste 12 = .ok (.ireturn, 1) := by decide +kernel
theorem dX0_pourIn_0 : decode cX0_pourIn 0 = .ok (.aload_n 0, 1) := by decide +kernel
theorem dX0_pourIn_1 : decode cX0_pourIn 1 = .ok (.invokevirtual 34, 3) := by decide +kernel
theorem dX0_pourIn_4 : decode cX0_pourIn 4 = .ok (.ifCond .eq 8, 3) := by decide +kernel
theorem dX0_pourIn_7 : decode cX0_pourIn 7 = .ok (.aload_n 0, 1) := by decide +kernel
theorem dX0_pourIn_8 : decode cX0_pourIn 8 = .ok (.aload_n 1, 1) := by decide +kernel
theorem dX0_pourIn_9 : decode cX0_pourIn 9 = .ok (.invokevirtual 30, 3) := by decide +kernel
theorem dX0_pourIn_12 : decode cX0_pourIn 12 = .ok (.aload_n 0, 1) := by decide +kernel
theorem dX0_pourIn_13 : decode cX0_pourIn 13 = .ok (.dup, 1) := by decide +kernel
theorem dX0_pourIn_14 : decode cX0_pourIn 14 = .ok (.getfield 18, 3) := by decide +kernel
theorem dX0_pourIn_17 : decode cX0_pourIn 17 = .ok (.aload_n 1, 1) := by decide +kernel
theorem dX0_pourIn_18 : decode cX0_pourIn 18 = .ok (.iload_n 2, 1) := by decide +kernel
theorem dX0_pourIn_19 : decode cX0_pourIn 19 = .ok (.invokevirtual 55, 3) := by decide +kernel
theorem dX0_pourIn_22 : decode cX0_pourIn 22 = .ok (.iadd, 1) := by decide +kernel
theorem dX0_pourIn_23 : decode cX0_pourIn 23 = .ok (.putfield 18, 3) := by decide +kernel
theorem dX0_pourIn_26 : decode cX0_pourIn 26 = .ok (.aload_n 0, 1) := by decide +kernel
theorem dX0_pourIn_27 : decode cX0_pourIn 27 = .ok (.dup, 1) := by decide +kernel
theorem dX0_pourIn_28 : decode cX0_pourIn 28 = .ok (.getfield 15, 3) := by decide +kernel
theorem dX0_pourIn_31 : decode cX0_pourIn 31 = .ok (.iload_n 2, 1) := by decide +kernel
theorem dX0_pourIn_32 : decode cX0_pourIn 32 = .ok (.iadd, 1) := by decide +kernel
theorem dX0_pourIn_33 : decode cX0_pourIn 33 = .ok (.putfield 15, 3) := by decide +kernel
theorem dX0_pourIn_36 : decode cX0_pourIn 36 = .ok (.return_, 1) := by decide +kernel
theorem dX0_takeOut_0 : decode cX0_takeOut 0 = .ok (.aload_n 0, 1) := by decide +kernel
theorem dX0_takeOut_1 : decode cX0_takeOut 1 = .ok (.iload_n 1, 1) := by decide +kernel
theorem dX0_takeOut_2 : decode cX0_takeOut 2 = .ok (.invokevirtual 58, 3) := by decide +kernel
theorem dX0_takeOut_5 : decode cX0_takeOut 5 = .ok (.istore_n 2, 1) := by decide +kernel
theorem dX0_takeOut_6 : decode cX0_takeOut 6 = .ok (.aload_n 0, 1) := by decide +kernel
theorem dX0_takeOut_7 : decode cX0_takeOut 7 = .ok (.dup, 1) := by decide +kernel
theorem dX0_takeOut_8 : decode cX0_takeOut 8 = .ok (.getfield 15, 3) := by decide +kernel
theorem dX0_takeOut_11 : decode cX0_takeOut 11 = .ok (.iload_n 1, 1) := by decide +kernel
theorem dX0_takeOut_12 : decode cX0_takeOut 12 = .ok (.isub, 1) := by decide +kernel
theorem dX0_takeOut_13 : decode cX0_takeOut 13 = .ok (.putfield 15, 3) := by decide +kernel
theorem dX0_takeOut_16 : decode cX0_takeOut 16 = .ok (.aload_n 0, 1) := by decide +kernel
theorem dX0_takeOut_17 : decode cX0_takeOut 17 = .ok (.dup, 1) := by decide +kernel
theorem dX0_takeOut_18 : decode cX0_takeOut 18 = .ok (.getfield 18, 3) := by decide +kernel
theorem dX0_takeOut_21 : decode cX0_takeOut 21 = .ok (.iload_n 2, 1) := by decide +kernel
theorem dX0_takeOut_22 : decode cX0_takeOut 22 = .ok (.isub, 1) := by decide +kernel
theorem dX0_takeOut_23 : decode cX0_takeOut 23 = .ok (.putfield 18, 3) := by decide +kernel
theorem dX0_takeOut_26 : decode cX0_takeOut 26 = .ok (.aload_n 0, 1) := by decide +kernel
theorem dX0_takeOut_27 : decode cX0_takeOut 27 = .ok (.getfield 15, 3) := by decide +kernel
theorem dX0_takeOut_30 : decode cX0_takeOut 30 = .ok (.ifCond .ne 7, 3) := by decide +kernel
theorem dX0_takeOut_33 : decode cX0_takeOut 33 = .ok (.aload_n 0, 1) := by decide +kernel
theorem dX0_takeOut_34 : decode cX0_takeOut 34 = .ok (.invokevirtual 61, 3) := by decide +kernel
theorem dX0_takeOut_37 : decode cX0_takeOut 37 = .ok (.iload_n 2, 1) := by decide +kernel
theorem dX0_takeOut_38 : decode cX0_takeOut 38 = .ok (.ireturn, 1) := by decide +kernel
theorem dX0_hailIn_0 : decode cX0_hailIn 0 = .ok (.aload_n 0, 1) := by decide +kernel
theorem dX0_hailIn_1 : decode cX0_hailIn 1 = .ok (.getfield 15, 3) := by decide +kernel
theorem dX0_hailIn_4 : decode cX0_hailIn 4 = .ok (.aload_n 0, 1) := by decide +kernel
theorem dX0_hailIn_5 : decode cX0_hailIn 5 = .ok (.getfield 18, 3) := by decide +kernel
theorem dX0_hailIn_8 : decode cX0_hailIn 8 = .ok (.isub, 1) := by decide +kernel
theorem dX0_hailIn_9 : decode cX0_hailIn 9 = .ok (.istore_n 2, 1) := by decide +kernel
theorem dX0_hailIn_10 : decode cX0_hailIn 10 = .ok (.iload_n 1, 1) := by decide +kernel
theorem dX0_hailIn_11 : decode cX0_hailIn 11 = .ok (.aload_n 0, 1) := by decide +kernel
theorem dX0_hailIn_12 : decode cX0_hailIn 12 = .ok (.invokevirtual 51, 3) := by decide +kernel
theorem dX0_hailIn_15 : decode cX0_hailIn 15 = .ok (.imul, 1) := by decide +kernel
theorem dX0_hailIn_16 : decode cX0_hailIn 16 = .ok (.bipush 100, 2) := by decide +kernel
theorem dX0_hailIn_18 : decode cX0_hailIn 18 = .ok (.idiv, 1) := by decide +kernel
theorem dX0_hailIn_19 : decode cX0_hailIn 19 = .ok (.iload_n 1, 1) := by decide +kernel
theorem dX0_hailIn_20 : decode cX0_hailIn 20 = .ok (.iload_n 2, 1) := by decide +kernel
theorem dX0_hailIn_21 : decode cX0_hailIn 21 = .ok (.isub, 1) := by decide +kernel
theorem dX0_hailIn_22 : decode cX0_hailIn 22 = .ok (.invokestatic 64, 3) := by decide +kernel
theorem dX0_hailIn_25 : decode cX0_hailIn 25 = .ok (.ireturn, 1) := by decide +kernel
theorem dX1_init_0 : decode cX1_init 0 = .ok (.aload_n 0, 1) := by decide +kernel
theorem dX1_init_1 : decode cX1_init 1 = .ok (.invokespecial 3, 3) := by decide +kernel
theorem dX1_init_4 : decode cX1_init 4 = .ok (.aload_n 0, 1) := by decide +kernel
theorem dX1_init_5 : decode cX1_init 5 = .ok (.iconst 4, 1) := by decide +kernel
theorem dX1_init_6 : decode cX1_init 6 = .ok (.newarray .int, 2) := by decide +kernel
theorem dX1_init_8 : decode cX1_init 8 = .ok (.putfield 9, 3) := by decide +kernel
theorem dX1_init_11 : decode cX1_init 11 = .ok (.aload_n 0, 1) := by decide +kernel
theorem dX1_init_12 : decode cX1_init 12 = .ok (.bipush 8, 2) := by decide +kernel
theorem dX1_init_14 : decode cX1_init 14 = .ok (.anewarray 15, 3) := by decide +kernel
theorem dX1_init_17 : decode cX1_init 17 = .ok (.putfield 17, 3) := by decide +kernel
theorem dX1_init_20 : decode cX1_init 20 = .ok (.aload_n 0, 1) := by decide +kernel
theorem dX1_init_21 : decode cX1_init 21 = .ok (.iconst 0, 1) := by decide +kernel
theorem dX1_init_22 : decode cX1_init 22 = .ok (.putfield 21, 3) := by decide +kernel
theorem dX1_init_25 : decode cX1_init 25 = .ok (.aload_n 0, 1) := by decide +kernel
theorem dX1_init_26 : decode cX1_init 26 = .ok (.new 25, 3) := by decide +kernel
theorem dX1_init_29 : decode cX1_init 29 = .ok (.dup, 1) := by decide +kernel
theorem dX1_init_30 : decode cX1_init 30 = .ok (.invokespecial 27, 3) := by decide +kernel
theorem dX1_init_33 : decode cX1_init 33 = .ok (.putfield 28, 3) := by decide +kernel
theorem dX1_init_36 : decode cX1_init 36 = .ok (.aload_n 0, 1) := by decide +kernel
theorem dX1_init_37 : decode cX1_init 37 = .ok (.bipush 12, 2) := by decide +kernel
theorem dX1_init_39 : decode cX1_init 39 = .ok (.anewarray 32, 3) := by decide +kernel
theorem dX1_init_42 : decode cX1_init 42 = .ok (.putfield 34, 3) := by decide +kernel
theorem dX1_init_45 : decode cX1_init 45 = .ok (.aload_n 0, 1) := by decide +kernel
theorem dX1_init_46 : decode cX1_init 46 = .ok (.iconst 0, 1) := by decide +kernel
theorem dX1_init_47 : decode cX1_init 47 = .ok (.putfield 38, 3) := by decide +kernel
theorem dX1_init_50 : decode cX1_init 50 = .ok (.aload_n 0, 1) := by decide +kernel
theorem dX1_init_51 : decode cX1_init 51 = .ok (.iconst 0, 1) := by decide +kernel
theorem dX1_init_52 : decode cX1_init 52 = .ok (.putfield 41, 3) := by decide +kernel
theorem dX1_init_55 : decode cX1_init 55 = .ok (.aload_n 0, 1) := by decide +kernel
theorem dX1_init_56 : decode cX1_init 56 = .ok (.iconst 0, 1) := by decide +kernel
theorem dX1_init_57 : decode cX1_init 57 = .ok (.putfield 44, 3) := by decide +kernel
theorem dX1_init_60 : decode cX1_init 60 = .ok (.aload_n 0, 1) := by decide +kernel
theorem dX1_init_61 : decode cX1_init 61 = .ok (.iconst 0, 1) := by decide +kernel
theorem dX1_init_62 : decode cX1_init 62 = .ok (.putfield 47, 3) := by decide +kernel
theorem dX1_init_65 : decode cX1_init 65 = .ok (.aload_n 0, 1) := by decide +kernel
theorem dX1_init_66 : decode cX1_init 66 = .ok (.iconst 0, 1) := by decide +kernel
theorem dX1_init_67 : decode cX1_init 67 = .ok (.putfield 50, 3) := by decide +kernel
theorem dX1_init_70 : decode cX1_init 70 = .ok (.aload_n 0, 1) := by decide +kernel
theorem dX1_init_71 : decode cX1_init 71 = .ok (.iconst 0, 1) := by decide +kernel
theorem dX1_init_72 : decode cX1_init 72 = .ok (.putfield 53, 3) := by decide +kernel
theorem dX1_init_75 : decode cX1_init 75 = .ok (.aload_n 0, 1) := by decide +kernel
theorem dX1_init_76 : decode cX1_init 76 = .ok (.iconst 0, 1) := by decide +kernel
theorem dX1_init_77 : decode cX1_init 77 = .ok (.putfield 56, 3) := by decide +kernel
theorem dX1_init_80 : decode cX1_init 80 = .ok (.aload_n 0, 1) := by decide +kernel
theorem dX1_init_81 : decode cX1_init 81 = .ok (.iconst 0, 1) := by decide +kernel
theorem dX1_init_82 : decode cX1_init 82 = .ok (.putfield 59, 3) := by decide +kernel
theorem dX1_init_85 : decode cX1_init 85 = .ok (.aload_n 0, 1) := by decide +kernel
theorem dX1_init_86 : decode cX1_init 86 = .ok (.iconst 0, 1) := by decide +kernel
theorem dX1_init_87 : decode cX1_init 87 = .ok (.putfield 62, 3) := by decide +kernel
theorem dX1_init_90 : decode cX1_init 90 = .ok (.iconst 0, 1) := by decide +kernel
theorem dX1_init_91 : decode cX1_init 91 = .ok (.istore_n 1, 1) := by decide +kernel
theorem dX1_init_92 : decode cX1_init 92 = .ok (.iload_n 1, 1) := by decide +kernel
theorem dX1_init_93 : decode cX1_init 93 = .ok (.iconst 4, 1) := by decide +kernel
theorem dX1_init_94 : decode cX1_init 94 = .ok (.if_icmp .ge 16, 3) := by decide +kernel
theorem dX1_init_97 : decode cX1_init 97 = .ok (.aload_n 0, 1) := by decide +kernel
theorem dX1_init_98 : decode cX1_init 98 = .ok (.getfield 9, 3) := by decide +kernel
theorem dX1_init_101 : decode cX1_init 101 = .ok (.iload_n 1, 1) := by decide +kernel
theorem dX1_init_102 : decode cX1_init 102 = .ok (.iconst 3, 1) := by decide +kernel
theorem dX1_init_103 : decode cX1_init 103 = .ok (.iastore, 1) := by decide +kernel
theorem dX1_init_104 : decode cX1_init 104 = .ok (.iinc 1 1, 3) := by decide +kernel
theorem dX1_init_107 : decode cX1_init 107 = .ok (.goto (-15), 3) := by decide +kernel
theorem dX1_init_110 : decode cX1_init 110 = .ok (.iconst 0, 1) := by decide +kernel
theorem dX1_init_111 : decode cX1_init 111 = .ok (.istore_n 1, 1) := by decide +kernel
theorem dX1_init_112 : decode cX1_init 112 = .ok (.iload_n 1, 1) := by decide +kernel
theorem dX1_init_113 : decode cX1_init 113 = .ok (.bipush 8, 2) := by decide +kernel
theorem dX1_init_115 : decode cX1_init 115 = .ok (.if_icmp .ge 22, 3) := by decide +kernel
theorem dX1_init_118 : decode cX1_init 118 = .ok (.aload_n 0, 1) := by decide +kernel
theorem dX1_init_119 : decode cX1_init 119 = .ok (.getfield 17, 3) := by decide +kernel
theorem dX1_init_122 : decode cX1_init 122 = .ok (.iload_n 1, 1) := by decide +kernel
theorem dX1_init_123 : decode cX1_init 123 = .ok (.new 15, 3) := by decide +kernel
theorem dX1_init_126 : decode cX1_init 126 = .ok (.dup, 1) := by decide +kernel
theorem dX1_init_127 : decode cX1_init 127 = .ok (.invokespecial 65, 3) := by decide +kernel
theorem dX1_init_130 : decode cX1_init 130 = .ok (.aastore, 1) := by decide +kernel
theorem dX1_init_131 : decode cX1_init 131 = .ok (.iinc 1 1, 3) := by decide +kernel
theorem dX1_init_134 : decode cX1_init 134 = .ok (.goto (-22), 3) := by decide +kernel
theorem dX1_init_137 : decode cX1_init 137 = .ok (.iconst 0, 1) := by decide +kernel
theorem dX1_init_138 : decode cX1_init 138 = .ok (.istore_n 1, 1) := by decide +kernel
theorem dX1_init_139 : decode cX1_init 139 = .ok (.iload_n 1, 1) := by decide +kernel
theorem dX1_init_140 : decode cX1_init 140 = .ok (.bipush 12, 2) := by decide +kernel
theorem dX1_init_142 : decode cX1_init 142 = .ok (.if_icmp .ge 22, 3) := by decide +kernel
theorem dX1_init_145 : decode cX1_init 145 = .ok (.aload_n 0, 1) := by decide +kernel
theorem dX1_init_146 : decode cX1_init 146 = .ok (.getfield 34, 3) := by decide +kernel
theorem dX1_init_149 : decode cX1_init 149 = .ok (.iload_n 1, 1) := by decide +kernel
theorem dX1_init_150 : decode cX1_init 150 = .ok (.new 32, 3) := by decide +kernel
theorem dX1_init_153 : decode cX1_init 153 = .ok (.dup, 1) := by decide +kernel
theorem dX1_init_154 : decode cX1_init 154 = .ok (.invokespecial 66, 3) := by decide +kernel
theorem dX1_init_157 : decode cX1_init 157 = .ok (.aastore, 1) := by decide +kernel
theorem dX1_init_158 : decode cX1_init 158 = .ok (.iinc 1 1, 3) := by decide +kernel
theorem dX1_init_161 : decode cX1_init 161 = .ok (.goto (-22), 3) := by decide +kernel
theorem dX1_init_164 : decode cX1_init 164 = .ok (.return_, 1) := by decide +kernel
theorem dX1_copy_0 : decode cX1_copy 0 = .ok (.iconst 0, 1) := by decide +kernel
theorem dX1_copy_1 : decode cX1_copy 1 = .ok (.istore_n 2, 1) := by decide +kernel
theorem dX1_copy_2 : decode cX1_copy 2 = .ok (.iload_n 2, 1) := by decide +kernel
theorem dX1_copy_3 : decode cX1_copy 3 = .ok (.iconst 4, 1) := by decide +kernel
theorem dX1_copy_4 : decode cX1_copy 4 = .ok (.if_icmp .ge 21, 3) := by decide +kernel
theorem dX1_copy_7 : decode cX1_copy 7 = .ok (.aload_n 0, 1) := by decide +kernel
theorem dX1_copy_8 : decode cX1_copy 8 = .ok (.getfield 9, 3) := by decide +kernel
theorem dX1_copy_11 : decode cX1_copy 11 = .ok (.iload_n 2, 1) := by decide +kernel
theorem dX1_copy_12 : decode cX1_copy 12 = .ok (.aload_n 1, 1) := by decide +kernel
theorem dX1_copy_13 : decode cX1_copy 13 = .ok (.getfield 9, 3) := by decide +kernel
theorem dX1_copy_16 : decode cX1_copy 16 = .ok (.iload_n 2, 1) := by decide +kernel
theorem dX1_copy_17 : decode cX1_copy 17 = .ok (.iaload, 1) := by decide +kernel
theorem dX1_copy_18 : decode cX1_copy 18 = .ok (.iastore, 1) := by decide +kernel
theorem dX1_copy_19 : decode cX1_copy 19 = .ok (.iinc 2 1, 3) := by decide +kernel
theorem dX1_copy_22 : decode cX1_copy 22 = .ok (.goto (-20), 3) := by decide +kernel
theorem dX1_copy_25 : decode cX1_copy 25 = .ok (.iconst 0, 1) := by decide +kernel
theorem dX1_copy_26 : decode cX1_copy 26 = .ok (.istore_n 2, 1) := by decide +kernel
theorem dX1_copy_27 : decode cX1_copy 27 = .ok (.iload_n 2, 1) := by decide +kernel
theorem dX1_copy_28 : decode cX1_copy 28 = .ok (.bipush 8, 2) := by decide +kernel
theorem dX1_copy_30 : decode cX1_copy 30 = .ok (.if_icmp .ge 24, 3) := by decide +kernel
theorem dX1_copy_33 : decode cX1_copy 33 = .ok (.aload_n 0, 1) := by decide +kernel
theorem dX1_copy_34 : decode cX1_copy 34 = .ok (.getfield 17, 3) := by decide +kernel
theorem dX1_copy_37 : decode cX1_copy 37 = .ok (.iload_n 2, 1) := by decide +kernel
theorem dX1_copy_38 : decode cX1_copy 38 = .ok (.aaload, 1) := by decide +kernel
theorem dX1_copy_39 : decode cX1_copy 39 = .ok (.aload_n 1, 1) := by decide +kernel
theorem dX1_copy_40 : decode cX1_copy 40 = .ok (.getfield 17, 3) := by decide +kernel
theorem dX1_copy_43 : decode cX1_copy 43 = .ok (.iload_n 2, 1) := by decide +kernel
theorem dX1_copy_44 : decode cX1_copy 44 = .ok (.aaload, 1) := by decide +kernel
theorem dX1_copy_45 : decode cX1_copy 45 = .ok (.invokevirtual 67, 3) := by decide +kernel
theorem dX1_copy_48 : decode cX1_copy 48 = .ok (.iinc 2 1, 3) := by decide +kernel
theorem dX1_copy_51 : decode cX1_copy 51 = .ok (.goto (-24), 3) := by decide +kernel
theorem dX1_copy_54 : decode cX1_copy 54 = .ok (.iconst 0, 1) := by decide +kernel
theorem dX1_copy_55 : decode cX1_copy 55 = .ok (.istore_n 2, 1) := by decide +kernel
theorem dX1_copy_56 : decode cX1_copy 56 = .ok (.iload_n 2, 1) := by decide +kernel
theorem dX1_copy_57 : decode cX1_copy 57 = .ok (.bipush 12, 2) := by decide +kernel
theorem dX1_copy_59 : decode cX1_copy 59 = .ok (.if_icmp .ge 24, 3) := by decide +kernel
theorem dX1_copy_62 : decode cX1_copy 62 = .ok (.aload_n 0, 1) := by decide +kernel
theorem dX1_copy_63 : decode cX1_copy 63 = .ok (.getfield 34, 3) := by decide +kernel
theorem dX1_copy_66 : decode cX1_copy 66 = .ok (.iload_n 2, 1) := by decide +kernel
theorem dX1_copy_67 : decode cX1_copy 67 = .ok (.aaload, 1) := by decide +kernel
theorem dX1_copy_68 : decode cX1_copy 68 = .ok (.aload_n 1, 1) := by decide +kernel
theorem dX1_copy_69 : decode cX1_copy 69 = .ok (.getfield 34, 3) := by decide +kernel
theorem dX1_copy_72 : decode cX1_copy 72 = .ok (.iload_n 2, 1) := by decide +kernel
theorem dX1_copy_73 : decode cX1_copy 73 = .ok (.aaload, 1) := by decide +kernel
theorem dX1_copy_74 : decode cX1_copy 74 = .ok (.invokevirtual 71, 3) := by decide +kernel
theorem dX1_copy_77 : decode cX1_copy 77 = .ok (.iinc 2 1, 3) := by decide +kernel
theorem dX1_copy_80 : decode cX1_copy 80 = .ok (.goto (-24), 3) := by decide +kernel
theorem dX1_copy_83 : decode cX1_copy 83 = .ok (.aload_n 0, 1) := by decide +kernel
theorem dX1_copy_84 : decode cX1_copy 84 = .ok (.getfield 28, 3) := by decide +kernel
theorem dX1_copy_87 : decode cX1_copy 87 = .ok (.aload_n 1, 1) := by decide +kernel
theorem dX1_copy_88 : decode cX1_copy 88 = .ok (.getfield 28, 3) := by decide +kernel
theorem dX1_copy_91 : decode cX1_copy 91 = .ok (.invokevirtual 74, 3) := by decide +kernel
theorem dX1_copy_94 : decode cX1_copy 94 = .ok (.aload_n 0, 1) := by decide +kernel
theorem dX1_copy_95 : decode cX1_copy 95 = .ok (.aload_n 1, 1) := by decide +kernel
theorem dX1_copy_96 : decode cX1_copy 96 = .ok (.invokevirtual 77, 3) := by decide +kernel
theorem dX1_copy_99 : decode cX1_copy 99 = .ok (.return_, 1) := by decide +kernel
theorem dX1_copyCounts_0 : decode cX1_copyCounts 0 = .ok (.aload_n 0, 1) := by decide +kernel
theorem dX1_copyCounts_1 : decode cX1_copyCounts 1 = .ok (.aload_n 1, 1) := by decide +kernel
theorem dX1_copyCounts_2 : decode cX1_copyCounts 2 = .ok (.getfield 21, 3) := by decide +kernel
theorem dX1_copyCounts_5 : decode cX1_copyCounts 5 = .ok (.putfield 21, 3) := by decide +kernel
theorem dX1_copyCounts_8 : decode cX1_copyCounts 8 = .ok (.aload_n 0, 1) := by decide +kernel
theorem dX1_copyCounts_9 : decode cX1_copyCounts 9 = .ok (.aload_n 1, 1) := by decide +kernel
theorem dX1_copyCounts_10 : decode cX1_copyCounts 10 = .ok (.getfield 38, 3) := by decide +kernel
theorem dX1_copyCounts_13 : decode cX1_copyCounts 13 = .ok (.putfield 38, 3) := by decide +kernel
theorem dX1_copyCounts_16 : decode cX1_copyCounts 16 = .ok (.aload_n 0, 1) := by decide +kernel
theorem dX1_copyCounts_17 : decode cX1_copyCounts 17 = .ok (.aload_n 1, 1) := by decide +kernel
theorem dX1_copyCounts_18 : decode cX1_copyCounts 18 = .ok (.getfield 41, 3) := by decide +kernel
theorem dX1_copyCounts_21 : decode cX1_copyCounts 21 = .ok (.putfield 41, 3) := by decide +kernel
theorem dX1_copyCounts_24 : decode cX1_copyCounts 24 = .ok (.aload_n 0, 1) := by decide +kernel
theorem dX1_copyCounts_25 : decode cX1_copyCounts 25 = .ok (.aload_n 1, 1) := by decide +kernel
theorem dX1_copyCounts_26 : decode cX1_copyCounts 26 = .ok (.getfield 44, 3) := by decide +kernel
theorem dX1_copyCounts_29 : decode cX1_copyCounts 29 = .ok (.putfield 44, 3) := by decide +kernel
theorem dX1_copyCounts_32 : decode cX1_copyCounts 32 = .ok (.aload_n 0, 1) := by decide +kernel
theorem dX1_copyCounts_33 : decode cX1_copyCounts 33 = .ok (.aload_n 1, 1) := by decide +kernel
theorem dX1_copyCounts_34 : decode cX1_copyCounts 34 = .ok (.getfield 47, 3) := by decide +kernel
theorem dX1_copyCounts_37 : decode cX1_copyCounts 37 = .ok (.putfield 47, 3) := by decide +kernel
theorem dX1_copyCounts_40 : decode cX1_copyCounts 40 = .ok (.aload_n 0, 1) := by decide +kernel
theorem dX1_copyCounts_41 : decode cX1_copyCounts 41 = .ok (.aload_n 1, 1) := by decide +kernel
theorem dX1_copyCounts_42 : decode cX1_copyCounts 42 = .ok (.getfield 50, 3) := by decide +kernel
theorem dX1_copyCounts_45 : decode cX1_copyCounts 45 = .ok (.putfield 50, 3) := by decide +kernel
theorem dX1_copyCounts_48 : decode cX1_copyCounts 48 = .ok (.aload_n 0, 1) := by decide +kernel
theorem dX1_copyCounts_49 : decode cX1_copyCounts 49 = .ok (.aload_n 1, 1) := by decide +kernel
theorem dX1_copyCounts_50 : decode cX1_copyCounts 50 = .ok (.getfield 53, 3) := by decide +kernel
theorem dX1_copyCounts_53 : decode cX1_copyCounts 53 = .ok (.putfield 53, 3) := by decide +kernel
theorem dX1_copyCounts_56 : decode cX1_copyCounts 56 = .ok (.aload_n 0, 1) := by decide +kernel
theorem dX1_copyCounts_57 : decode cX1_copyCounts 57 = .ok (.aload_n 1, 1) := by decide +kernel
theorem dX1_copyCounts_58 : decode cX1_copyCounts 58 = .ok (.getfield 56, 3) := by decide +kernel
theorem dX1_copyCounts_61 : decode cX1_copyCounts 61 = .ok (.putfield 56, 3) := by decide +kernel
theorem dX1_copyCounts_64 : decode cX1_copyCounts 64 = .ok (.aload_n 0, 1) := by decide +kernel
theorem dX1_copyCounts_65 : decode cX1_copyCounts 65 = .ok (.aload_n 1, 1) := by decide +kernel
theorem dX1_copyCounts_66 : decode cX1_copyCounts 66 = .ok (.getfield 59, 3) := by decide +kernel
theorem dX1_copyCounts_69 : decode cX1_copyCounts 69 = .ok (.putfield 59, 3) := by decide +kernel
theorem dX1_copyCounts_72 : decode cX1_copyCounts 72 = .ok (.aload_n 0, 1) := by decide +kernel
theorem dX1_copyCounts_73 : decode cX1_copyCounts 73 = .ok (.aload_n 1, 1) := by decide +kernel
theorem dX1_copyCounts_74 : decode cX1_copyCounts 74 = .ok (.getfield 62, 3) := by decide +kernel
theorem dX1_copyCounts_77 : decode cX1_copyCounts 77 = .ok (.putfield 62, 3) := by decide +kernel
theorem dX1_copyCounts_80 : decode cX1_copyCounts 80 = .ok (.return_, 1) := by decide +kernel
theorem dX1_hasBarrel_0 : decode cX1_hasBarrel 0 = .ok (.iload_n 1, 1) := by decide +kernel
theorem dX1_hasBarrel_1 : decode cX1_hasBarrel 1 = .ok (.ifCond .lt 15, 3) := by decide +kernel
theorem dX1_hasBarrel_4 : decode cX1_hasBarrel 4 = .ok (.iload_n 1, 1) := by decide +kernel
theorem dX1_hasBarrel_5 : decode cX1_hasBarrel 5 = .ok (.aload_n 0, 1) := by decide +kernel
theorem dX1_hasBarrel_6 : decode cX1_hasBarrel 6 = .ok (.getfield 21, 3) := by decide +kernel
theorem dX1_hasBarrel_9 : decode cX1_hasBarrel 9 = .ok (.if_icmp .ge 7, 3) := by decide +kernel
theorem dX1_hasBarrel_12 : decode cX1_hasBarrel 12 = .ok (.iconst 1, 1) := by decide +kernel
theorem dX1_hasBarrel_13 : decode cX1_hasBarrel 13 = .ok (.goto 4, 3) := by decide +kernel
theorem dX1_hasBarrel_16 : decode cX1_hasBarrel 16 = .ok (.iconst 0, 1) := by decide +kernel
theorem dX1_hasBarrel_17 : decode cX1_hasBarrel 17 = .ok (.ireturn, 1) := by decide +kernel
theorem dX1_addBarrel_0 : decode cX1_addBarrel 0 = .ok (.aload_n 0, 1) := by decide +kernel
theorem dX1_addBarrel_1 : decode cX1_addBarrel 1 = .ok (.getfield 17, 3) := by decide +kernel
theorem dX1_addBarrel_4 : decode cX1_addBarrel 4 = .ok (.aload_n 0, 1) := by decide +kernel
theorem dX1_addBarrel_5 : decode cX1_addBarrel 5 = .ok (.getfield 21, 3) := by decide +kernel
theorem dX1_addBarrel_8 : decode cX1_addBarrel 8 = .ok (.aaload, 1) := by decide +kernel
theorem dX1_addBarrel_9 : decode cX1_addBarrel 9 = .ok (.invokevirtual 81, 3) := by decide +kernel
theorem dX1_addBarrel_12 : decode cX1_addBarrel 12 = .ok (.aload_n 0, 1) := by decide +kernel
theorem dX1_addBarrel_13 : decode cX1_addBarrel 13 = .ok (.getfield 17, 3) := by decide +kernel
theorem dX1_addBarrel_16 : decode cX1_addBarrel 16 = .ok (.aload_n 0, 1) := by decide +kernel
theorem dX1_addBarrel_17 : decode cX1_addBarrel 17 = .ok (.getfield 21, 3) := by decide +kernel
theorem dX1_addBarrel_20 : decode cX1_addBarrel 20 = .ok (.aaload, 1) := by decide +kernel
theorem dX1_addBarrel_21 : decode cX1_addBarrel 21 = .ok (.iload_n 1, 1) := by decide +kernel
theorem dX1_addBarrel_22 : decode cX1_addBarrel 22 = .ok (.putfield 84, 3) := by decide +kernel
theorem dX1_addBarrel_25 : decode cX1_addBarrel 25 = .ok (.aload_n 0, 1) := by decide +kernel
theorem dX1_addBarrel_26 : decode cX1_addBarrel 26 = .ok (.dup, 1) := by decide +kernel
theorem dX1_addBarrel_27 : decode cX1_addBarrel 27 = .ok (.getfield 21, 3) := by decide +kernel
theorem dX1_addBarrel_30 : decode cX1_addBarrel 30 = .ok (.iconst 1, 1) := by decide +kernel
theorem dX1_addBarrel_31 : decode cX1_addBarrel 31 = .ok (.iadd, 1) := by decide +kernel
theorem dX1_addBarrel_32 : decode cX1_addBarrel 32 = .ok (.putfield 21, 3) := by decide +kernel
theorem dX1_addBarrel_35 : decode cX1_addBarrel 35 = .ok (.return_, 1) := by decide +kernel
theorem dX1_dropBarrel_0 : decode cX1_dropBarrel 0 = .ok (.iload_n 1, 1) := by decide +kernel
theorem dX1_dropBarrel_1 : decode cX1_dropBarrel 1 = .ok (.istore_n 2, 1) := by decide +kernel
theorem dX1_dropBarrel_2 : decode cX1_dropBarrel 2 = .ok (.iload_n 2, 1) := by decide +kernel
theorem dX1_dropBarrel_3 : decode cX1_dropBarrel 3 = .ok (.iconst 1, 1) := by decide +kernel
theorem dX1_dropBarrel_4 : decode cX1_dropBarrel 4 = .ok (.iadd, 1) := by decide +kernel
theorem dX1_dropBarrel_5 : decode cX1_dropBarrel 5 = .ok (.aload_n 0, 1) := by decide +kernel
theorem dX1_dropBarrel_6 : decode cX1_dropBarrel 6 = .ok (.getfield 21, 3) := by decide +kernel
theorem dX1_dropBarrel_9 : decode cX1_dropBarrel 9 = .ok (.if_icmp .ge 26, 3) := by decide +kernel
theorem dX1_dropBarrel_12 : decode cX1_dropBarrel 12 = .ok (.aload_n 0, 1) := by decide +kernel
theorem dX1_dropBarrel_13 : decode cX1_dropBarrel 13 = .ok (.getfield 17, 3) := by decide +kernel
theorem dX1_dropBarrel_16 : decode cX1_dropBarrel 16 = .ok (.iload_n 2, 1) := by decide +kernel
theorem dX1_dropBarrel_17 : decode cX1_dropBarrel 17 = .ok (.aaload, 1) := by decide +kernel
theorem dX1_dropBarrel_18 : decode cX1_dropBarrel 18 = .ok (.aload_n 0, 1) := by decide +kernel
theorem dX1_dropBarrel_19 : decode cX1_dropBarrel 19 = .ok (.getfield 17, 3) := by decide +kernel
theorem dX1_dropBarrel_22 : decode cX1_dropBarrel 22 = .ok (.iload_n 2, 1) := by decide +kernel
theorem dX1_dropBarrel_23 : decode cX1_dropBarrel 23 = .ok (.iconst 1, 1) := by decide +kernel
theorem dX1_dropBarrel_24 : decode cX1_dropBarrel 24 = .ok (.iadd, 1) := by decide +kernel
theorem dX1_dropBarrel_25 : decode cX1_dropBarrel 25 = .ok (.aaload, 1) := by decide +kernel
theorem dX1_dropBarrel_26 : decode cX1_dropBarrel 26 = .ok (.invokevirtual 67, 3) := by decide +kernel
theorem dX1_dropBarrel_29 : decode cX1_dropBarrel 29 = .ok (.iinc 2 1, 3) := by decide +kernel
theorem dX1_dropBarrel_32 : decode cX1_dropBarrel 32 = .ok (.goto (-30), 3) := by decide +kernel
theorem dX1_dropBarrel_35 : decode cX1_dropBarrel 35 = .ok (.aload_n 0, 1) := by decide +kernel
theorem dX1_dropBarrel_36 : decode cX1_dropBarrel 36 = .ok (.dup, 1) := by decide +kernel
theorem dX1_dropBarrel_37 : decode cX1_dropBarrel 37 = .ok (.getfield 21, 3) := by decide +kernel
theorem dX1_dropBarrel_40 : decode cX1_dropBarrel 40 = .ok (.iconst 1, 1) := by decide +kernel
theorem dX1_dropBarrel_41 : decode cX1_dropBarrel 41 = .ok (.isub, 1) := by decide +kernel
theorem dX1_dropBarrel_42 : decode cX1_dropBarrel 42 = .ok (.putfield 21, 3) := by decide +kernel
theorem dX1_dropBarrel_45 : decode cX1_dropBarrel 45 = .ok (.return_, 1) := by decide +kernel
theorem dX1_barrelsUnder_0 : decode cX1_barrelsUnder 0 = .ok (.iconst 0, 1) := by decide +kernel
theorem dX1_barrelsUnder_1 : decode cX1_barrelsUnder 1 = .ok (.istore_n 2, 1) := by decide +kernel
theorem dX1_barrelsUnder_2 : decode cX1_barrelsUnder 2 = .ok (.iconst 0, 1) := by decide +kernel
theorem dX1_barrelsUnder_3 : decode cX1_barrelsUnder 3 = .ok (.istore_n 3, 1) := by decide +kernel
theorem dX1_barrelsUnder_4 : decode cX1_barrelsUnder 4 = .ok (.iload_n 3, 1) := by decide +kernel
theorem dX1_barrelsUnder_5 : decode cX1_barrelsUnder 5 = .ok (.aload_n 0, 1) := by decide +kernel
theorem dX1_barrelsUnder_6 : decode cX1_barrelsUnder 6 = .ok (.getfield 21, 3) := by decide +kernel
theorem dX1_barrelsUnder_9 : decode cX1_barrelsUnder 9 = .ok (.if_icmp .ge 30, 3) := by decide +kernel
theorem dX1_barrelsUnder_12 : decode cX1_barrelsUnder 12 = .ok (.iload_n 2, 1) := by decide +kernel
theorem dX1_barrelsUnder_13 : decode cX1_barrelsUnder 13 = .ok (.aload_n 0, 1) := by decide +kernel
theorem dX1_barrelsUnder_14 : decode cX1_barrelsUnder 14 = .ok (.getfield 17, 3) := by decide +kernel
theorem dX1_barrelsUnder_17 : decode cX1_barrelsUnder 17 = .ok (.iload_n 3, 1) := by decide +kernel
theorem dX1_barrelsUnder_18 : decode cX1_barrelsUnder 18 = .ok (.aaload, 1) := by decide +kernel
theorem dX1_barrelsUnder_19 : decode cX1_barrelsUnder 19 = .ok (.getfield 84, 3) := by decide +kernel
theorem dX1_barrelsUnder_22 : decode cX1_barrelsUnder 22 = .ok (.iload_n 1, 1) := by decide +kernel
theorem dX1_barrelsUnder_23 : decode cX1_barrelsUnder 23 = .ok (.if_icmp .ne 7, 3) := by decide +kernel
theorem dX1_barrelsUnder_26 : decode cX1_barrelsUnder 26 = .ok (.iconst 1, 1) := by decide +kernel
theorem dX1_barrelsUnder_27 : decode cX1_barrelsUnder 27 = .ok (.goto 4, 3) := by decide +kernel
theorem dX1_barrelsUnder_30 : decode cX1_barrelsUnder 30 = .ok (.iconst 0, 1) := by decide +kernel
theorem dX1_barrelsUnder_31 : decode cX1_barrelsUnder 31 = .ok (.iadd, 1) := by decide +kernel
theorem dX1_barrelsUnder_32 : decode cX1_barrelsUnder 32 = .ok (.istore_n 2, 1) := by decide +kernel
theorem dX1_barrelsUnder_33 : decode cX1_barrelsUnder 33 = .ok (.iinc 3 1, 3) := by decide +kernel
theorem dX1_barrelsUnder_36 : decode cX1_barrelsUnder 36 = .ok (.goto (-32), 3) := by decide +kernel
theorem dX1_barrelsUnder_39 : decode cX1_barrelsUnder 39 = .ok (.iload_n 2, 1) := by decide +kernel
theorem dX1_barrelsUnder_40 : decode cX1_barrelsUnder 40 = .ok (.ireturn, 1) := by decide +kernel
theorem dX1_emptyUnder_0 : decode cX1_emptyUnder 0 = .ok (.iconst 0, 1) := by decide +kernel
theorem dX1_emptyUnder_1 : decode cX1_emptyUnder 1 = .ok (.istore_n 2, 1) := by decide +kernel
theorem dX1_emptyUnder_2 : decode cX1_emptyUnder 2 = .ok (.iconst 0, 1) := by decide +kernel
theorem dX1_emptyUnder_3 : decode cX1_emptyUnder 3 = .ok (.istore_n 3, 1) := by decide +kernel
theorem dX1_emptyUnder_4 : decode cX1_emptyUnder 4 = .ok (.iload_n 3, 1) := by decide +kernel
theorem dX1_emptyUnder_5 : decode cX1_emptyUnder 5 = .ok (.aload_n 0, 1) := by decide +kernel
theorem dX1_emptyUnder_6 : decode cX1_emptyUnder 6 = .ok (.getfield 21, 3) := by decide +kernel
theorem dX1_emptyUnder_9 : decode cX1_emptyUnder 9 = .ok (.if_icmp .ge 42, 3) := by decide +kernel
theorem dX1_emptyUnder_12 : decode cX1_emptyUnder 12 = .ok (.iload_n 2, 1) := by decide +kernel
theorem dX1_emptyUnder_13 : decode cX1_emptyUnder 13 = .ok (.aload_n 0, 1) := by decide +kernel
theorem dX1_emptyUnder_14 : decode cX1_emptyUnder 14 = .ok (.getfield 17, 3) := by decide +kernel
theorem dX1_emptyUnder_17 : decode cX1_emptyUnder 17 = .ok (.iload_n 3, 1) := by decide +kernel
theorem dX1_emptyUnder_18 : decode cX1_emptyUnder 18 = .ok (.aaload, 1) := by decide +kernel
theorem dX1_emptyUnder_19 : decode cX1_emptyUnder 19 = .ok (.getfield 84, 3) := by decide +kernel
theorem dX1_emptyUnder_22 : decode cX1_emptyUnder 22 = .ok (.iload_n 1, 1) := by decide +kernel
theorem dX1_emptyUnder_23 : decode cX1_emptyUnder 23 = .ok (.if_icmp .ne 19, 3) := by decide +kernel
theorem dX1_emptyUnder_26 : decode cX1_emptyUnder 26 = .ok (.aload_n 0, 1) := by decide +kernel
theorem dX1_emptyUnder_27 : decode cX1_emptyUnder 27 = .ok (.getfield 17, 3) := by decide +kernel
theorem dX1_emptyUnder_30 : decode cX1_emptyUnder 30 = .ok (.iload_n 3, 1) := by decide +kernel
theorem dX1_emptyUnder_31 : decode cX1_emptyUnder 31 = .ok (.aaload, 1) := by decide +kernel
theorem dX1_emptyUnder_32 : decode cX1_emptyUnder 32 = .ok (.invokevirtual 87, 3) := by decide +kernel
theorem dX1_emptyUnder_35 : decode cX1_emptyUnder 35 = .ok (.ifCond .eq 7, 3) := by decide +kernel
theorem dX1_emptyUnder_38 : decode cX1_emptyUnder 38 = .ok (.iconst 1, 1) := by decide +kernel
theorem dX1_emptyUnder_39 : decode cX1_emptyUnder 39 = .ok (.goto 4, 3) := by decide +kernel
theorem dX1_emptyUnder_42 : decode cX1_emptyUnder 42 = .ok (.iconst 0, 1) := by decide +kernel
theorem dX1_emptyUnder_43 : decode cX1_emptyUnder 43 = .ok (.iadd, 1) := by decide +kernel
theorem dX1_emptyUnder_44 : decode cX1_emptyUnder 44 = .ok (.istore_n 2, 1) := by decide +kernel
theorem dX1_emptyUnder_45 : decode cX1_emptyUnder 45 = .ok (.iinc 3 1, 3) := by decide +kernel
theorem dX1_emptyUnder_48 : decode cX1_emptyUnder 48 = .ok (.goto (-44), 3) := by decide +kernel
theorem dX1_emptyUnder_51 : decode cX1_emptyUnder 51 = .ok (.iload_n 2, 1) := by decide +kernel
theorem dX1_emptyUnder_52 : decode cX1_emptyUnder 52 = .ok (.ireturn, 1) := by decide +kernel
theorem dX1_litresUnder_0 : decode cX1_litresUnder 0 = .ok (.iconst 0, 1) := by decide +kernel
theorem dX1_litresUnder_1 : decode cX1_litresUnder 1 = .ok (.istore_n 2, 1) := by decide +kernel
theorem dX1_litresUnder_2 : decode cX1_litresUnder 2 = .ok (.iconst 0, 1) := by decide +kernel
theorem dX1_litresUnder_3 : decode cX1_litresUnder 3 = .ok (.istore_n 3, 1) := by decide +kernel
theorem dX1_litresUnder_4 : decode cX1_litresUnder 4 = .ok (.iload_n 3, 1) := by decide +kernel
theorem dX1_litresUnder_5 : decode cX1_litresUnder 5 = .ok (.aload_n 0, 1) := by decide +kernel
theorem dX1_litresUnder_6 : decode cX1_litresUnder 6 = .ok (.getfield 21, 3) := by decide +kernel
theorem dX1_litresUnder_9 : decode cX1_litresUnder 9 = .ok (.if_icmp .ge 38, 3) := by decide +kernel
theorem dX1_litresUnder_12 : decode cX1_litresUnder 12 = .ok (.iload_n 2, 1) := by decide +kernel
theorem dX1_litresUnder_13 : decode cX1_litresUnder 13 = .ok (.aload_n 0, 1) := by decide +kernel
theorem dX1_litresUnder_14 : decode cX1_litresUnder 14 = .ok (.getfield 17, 3) := by decide +kernel
theorem dX1_litresUnder_17 : decode cX1_litresUnder 17 = .ok (.iload_n 3, 1) := by decide +kernel
theorem dX1_litresUnder_18 : decode cX1_litresUnder 18 = .ok (.aaload, 1) := by decide +kernel
theorem dX1_litresUnder_19 : decode cX1_litresUnder 19 = .ok (.getfield 84, 3) := by decide +kernel
theorem dX1_litresUnder_22 : decode cX1_litresUnder 22 = .ok (.iload_n 1, 1) := by decide +kernel
theorem dX1_litresUnder_23 : decode cX1_litresUnder 23 = .ok (.if_icmp .ne 15, 3) := by decide +kernel
theorem dX1_litresUnder_26 : decode cX1_litresUnder 26 = .ok (.aload_n 0, 1) := by decide +kernel
theorem dX1_litresUnder_27 : decode cX1_litresUnder 27 = .ok (.getfield 17, 3) := by decide +kernel
theorem dX1_litresUnder_30 : decode cX1_litresUnder 30 = .ok (.iload_n 3, 1) := by decide +kernel
theorem dX1_litresUnder_31 : decode cX1_litresUnder 31 = .ok (.aaload, 1) := by decide +kernel
theorem dX1_litresUnder_32 : decode cX1_litresUnder 32 = .ok (.getfield 91, 3) := by decide +kernel
theorem dX1_litresUnder_35 : decode cX1_litresUnder 35 = .ok (.goto 4, 3) := by decide +kernel
theorem dX1_litresUnder_38 : decode cX1_litresUnder 38 = .ok (.iconst 0, 1) := by decide +kernel
theorem dX1_litresUnder_39 : decode cX1_litresUnder 39 = .ok (.iadd, 1) := by decide +kernel
theorem dX1_litresUnder_40 : decode cX1_litresUnder 40 = .ok (.istore_n 2, 1) := by decide +kernel
theorem dX1_litresUnder_41 : decode cX1_litresUnder 41 = .ok (.iinc 3 1, 3) := by decide +kernel
theorem dX1_litresUnder_44 : decode cX1_litresUnder 44 = .ok (.goto (-40), 3) := by decide +kernel
theorem dX1_litresUnder_47 : decode cX1_litresUnder 47 = .ok (.iload_n 2, 1) := by decide +kernel
theorem dX1_litresUnder_48 : decode cX1_litresUnder 48 = .ok (.ireturn, 1) := by decide +kernel
theorem dX1_litresInBarrels_0 : decode cX1_litresInBarrels 0 = .ok (.iconst 0, 1) := by decide +kernel
theorem dX1_litresInBarrels_1 : decode cX1_litresInBarrels 1 = .ok (.istore_n 1, 1) := by decide +kernel
theorem dX1_litresInBarrels_2 : decode cX1_litresInBarrels 2 = .ok (.iconst 0, 1) := by decide +kernel
theorem dX1_litresInBarrels_3 : decode cX1_litresInBarrels 3 = .ok (.istore_n 2, 1) := by decide +kernel
theorem dX1_litresInBarrels_4 : decode cX1_litresInBarrels 4 = .ok (.iload_n 2, 1) := by decide +kernel
theorem dX1_litresInBarrels_5 : decode cX1_litresInBarrels 5 = .ok (.aload_n 0, 1) := by decide +kernel
theorem dX1_litresInBarrels_6 : decode cX1_litresInBarrels 6 = .ok (.getfield 21, 3) := by decide +kernel
theorem dX1_litresInBarrels_9 : decode cX1_litresInBarrels 9 = .ok (.if_icmp .ge 21, 3) := by decide +kernel
theorem dX1_litresInBarrels_12 : decode cX1_litresInBarrels 12 = .ok (.iload_n 1, 1) := by decide +kernel
theorem dX1_litresInBarrels_13 : decode cX1_litresInBarrels 13 = .ok (.aload_n 0, 1) := by decide +kernel
theorem dX1_litresInBarrels_14 : decode cX1_litresInBarrels 14 = .ok (.getfield 17, 3) := by decide +kernel
theorem dX1_litresInBarrels_17 : decode cX1_litresInBarrels 17 = .ok (.iload_n 2, 1) := by decide +kernel
theorem dX1_litresInBarrels_18 : decode cX1_litresInBarrels 18 = .ok (.aaload, 1) := by decide +kernel
theorem dX1_litresInBarrels_19 : decode cX1_litresInBarrels 19 = .ok (.getfield 91, 3) := by decide +kernel
theorem dX1_litresInBarrels_22 : decode cX1_litresInBarrels 22 = .ok (.iadd, 1) := by decide +kernel
theorem dX1_litresInBarrels_23 : decode cX1_litresInBarrels 23 = .ok (.istore_n 1, 1) := by decide +kernel
theorem dX1_litresInBarrels_24 : decode cX1_litresInBarrels 24 = .ok (.iinc 2 1, 3) := by decide +kernel
theorem dX1_litresInBarrels_27 : decode cX1_litresInBarrels 27 = .ok (.goto (-23), 3) := by decide +kernel
theorem dX1_litresInBarrels_30 : decode cX1_litresInBarrels 30 = .ok (.iload_n 1, 1) := by decide +kernel
theorem dX1_litresInBarrels_31 : decode cX1_litresInBarrels 31 = .ok (.ireturn, 1) := by decide +kernel
theorem dX1_hailInBarrels_0 : decode cX1_hailInBarrels 0 = .ok (.iconst 0, 1) := by decide +kernel
theorem dX1_hailInBarrels_1 : decode cX1_hailInBarrels 1 = .ok (.istore_n 1, 1) := by decide +kernel
theorem dX1_hailInBarrels_2 : decode cX1_hailInBarrels 2 = .ok (.iconst 0, 1) := by decide +kernel
theorem dX1_hailInBarrels_3 : decode cX1_hailInBarrels 3 = .ok (.istore_n 2, 1) := by decide +kernel
theorem dX1_hailInBarrels_4 : decode cX1_hailInBarrels 4 = .ok (.iload_n 2, 1) := by decide +kernel
theorem dX1_hailInBarrels_5 : decode cX1_hailInBarrels 5 = .ok (.aload_n 0, 1) := by decide +kernel
theorem dX1_hailInBarrels_6 : decode cX1_hailInBarrels 6 = .ok (.getfield 21, 3) := by decide +kernel
theorem dX1_hailInBarrels_9 : decode cX1_hailInBarrels 9 = .ok (.if_icmp .ge 21, 3) := by decide +kernel
theorem dX1_hailInBarrels_12 : decode cX1_hailInBarrels 12 = .ok (.iload_n 1, 1) := by decide +kernel
theorem dX1_hailInBarrels_13 : decode cX1_hailInBarrels 13 = .ok (.aload_n 0, 1) := by decide +kernel
theorem dX1_hailInBarrels_14 : decode cX1_hailInBarrels 14 = .ok (.getfield 17, 3) := by decide +kernel
theorem dX1_hailInBarrels_17 : decode cX1_hailInBarrels 17 = .ok (.iload_n 2, 1) := by decide +kernel
theorem dX1_hailInBarrels_18 : decode cX1_hailInBarrels 18 = .ok (.aaload, 1) := by decide +kernel
theorem dX1_hailInBarrels_19 : decode cX1_hailInBarrels 19 = .ok (.getfield 94, 3) := by decide +kernel
theorem dX1_hailInBarrels_22 : decode cX1_hailInBarrels 22 = .ok (.iadd, 1) := by decide +kernel
theorem dX1_hailInBarrels_23 : decode cX1_hailInBarrels 23 = .ok (.istore_n 1, 1) := by decide +kernel
theorem dX1_hailInBarrels_24 : decode cX1_hailInBarrels 24 = .ok (.iinc 2 1, 3) := by decide +kernel
theorem dX1_hailInBarrels_27 : decode cX1_hailInBarrels 27 = .ok (.goto (-23), 3) := by decide +kernel
theorem dX1_hailInBarrels_30 : decode cX1_hailInBarrels 30 = .ok (.iload_n 1, 1) := by decide +kernel
theorem dX1_hailInBarrels_31 : decode cX1_hailInBarrels 31 = .ok (.ireturn, 1) := by decide +kernel
theorem dX1_litresOfStorm_0 : decode cX1_litresOfStorm 0 = .ok (.iconst 0, 1) := by decide +kernel
theorem dX1_litresOfStorm_1 : decode cX1_litresOfStorm 1 = .ok (.istore_n 2, 1) := by decide +kernel
theorem dX1_litresOfStorm_2 : decode cX1_litresOfStorm 2 = .ok (.iconst 0, 1) := by decide +kernel
theorem dX1_litresOfStorm_3 : decode cX1_litresOfStorm 3 = .ok (.istore_n 3, 1) := by decide +kernel
theorem dX1_litresOfStorm_4 : decode cX1_litresOfStorm 4 = .ok (.iload_n 3, 1) := by decide +kernel
theorem dX1_litresOfStorm_5 : decode cX1_litresOfStorm 5 = .ok (.aload_n 0, 1) := by decide +kernel
theorem dX1_litresOfStorm_6 : decode cX1_litresOfStorm 6 = .ok (.getfield 21, 3) := by decide +kernel
theorem dX1_litresOfStorm_9 : decode cX1_litresOfStorm 9 = .ok (.if_icmp .ge 38, 3) := by decide +kernel
theorem dX1_litresOfStorm_12 : decode cX1_litresOfStorm 12 = .ok (.iload_n 2, 1) := by decide +kernel
theorem dX1_litresOfStorm_13 : decode cX1_litresOfStorm 13 = .ok (.aload_n 0, 1) := by decide +kernel
theorem dX1_litresOfStorm_14 : decode cX1_litresOfStorm 14 = .ok (.getfield 17, 3) := by decide +kernel
theorem dX1_litresOfStorm_17 : decode cX1_litresOfStorm 17 = .ok (.iload_n 3, 1) := by decide +kernel
theorem dX1_litresOfStorm_18 : decode cX1_litresOfStorm 18 = .ok (.aaload, 1) := by decide +kernel
theorem dX1_litresOfStorm_19 : decode cX1_litresOfStorm 19 = .ok (.getfield 97, 3) := by decide +kernel
theorem dX1_litresOfStorm_22 : decode cX1_litresOfStorm 22 = .ok (.iload_n 1, 1) := by decide +kernel
theorem dX1_litresOfStorm_23 : decode cX1_litresOfStorm 23 = .ok (.if_icmp .ne 15, 3) := by decide +kernel
theorem dX1_litresOfStorm_26 : decode cX1_litresOfStorm 26 = .ok (.aload_n 0, 1) := by decide +kernel
theorem dX1_litresOfStorm_27 : decode cX1_litresOfStorm 27 = .ok (.getfield 17, 3) := by decide +kernel
theorem dX1_litresOfStorm_30 : decode cX1_litresOfStorm 30 = .ok (.iload_n 3, 1) := by decide +kernel
theorem dX1_litresOfStorm_31 : decode cX1_litresOfStorm 31 = .ok (.aaload, 1) := by decide +kernel
theorem dX1_litresOfStorm_32 : decode cX1_litresOfStorm 32 = .ok (.getfield 91, 3) := by decide +kernel
theorem dX1_litresOfStorm_35 : decode cX1_litresOfStorm 35 = .ok (.goto 4, 3) := by decide +kernel
theorem dX1_litresOfStorm_38 : decode cX1_litresOfStorm 38 = .ok (.iconst 0, 1) := by decide +kernel
theorem dX1_litresOfStorm_39 : decode cX1_litresOfStorm 39 = .ok (.iadd, 1) := by decide +kernel
theorem dX1_litresOfStorm_40 : decode cX1_litresOfStorm 40 = .ok (.istore_n 2, 1) := by decide +kernel
theorem dX1_litresOfStorm_41 : decode cX1_litresOfStorm 41 = .ok (.iinc 3 1, 3) := by decide +kernel
theorem dX1_litresOfStorm_44 : decode cX1_litresOfStorm 44 = .ok (.goto (-40), 3) := by decide +kernel
theorem dX1_litresOfStorm_47 : decode cX1_litresOfStorm 47 = .ok (.iload_n 2, 1) := by decide +kernel
theorem dX1_litresOfStorm_48 : decode cX1_litresOfStorm 48 = .ok (.ireturn, 1) := by decide +kernel
theorem dX1_litresIntoBarrels_0 : decode cX1_litresIntoBarrels 0 = .ok (.iconst 0, 1) := by decide +kernel
theorem dX1_litresIntoBarrels_1 : decode cX1_litresIntoBarrels 1 = .ok (.istore_n 2, 1) := by decide +kernel
theorem dX1_litresIntoBarrels_2 : decode cX1_litresIntoBarrels 2 = .ok (.iconst 0, 1) := by decide +kernel
theorem dX1_litresIntoBarrels_3 : decode cX1_litresIntoBarrels 3 = .ok (.istore_n 3, 1) := by decide +kernel
theorem dX1_litresIntoBarrels_4 : decode cX1_litresIntoBarrels 4 = .ok (.iload_n 3, 1) := by decide +kernel
theorem dX1_litresIntoBarrels_5 : decode cX1_litresIntoBarrels 5 = .ok (.iconst 4, 1) := by decide +kernel
theorem dX1_litresIntoBarrels_6 : decode cX1_litresIntoBarrels 6 = .ok (.if_icmp .ge 28, 3) := by decide +kernel
theorem dX1_litresIntoBarrels_9 : decode cX1_litresIntoBarrels 9 = .ok (.iload_n 2, 1) := by decide +kernel
theorem dX1_litresIntoBarrels_10 : decode cX1_litresIntoBarrels 10 = .ok (.iload_n 3, 1) := by decide +kernel
theorem dX1_litresIntoBarrels_11 : decode cX1_litresIntoBarrels 11 = .ok (.iload_n 1, 1) := by decide +kernel
theorem dX1_litresIntoBarrels_12 : decode cX1_litresIntoBarrels 12 = .ok (.invokestatic 100, 3) := by decide +kernel
theorem dX1_litresIntoBarrels_15 : decode cX1_litresIntoBarrels 15 = .ok (.bipush 20, 2) := by decide +kernel
theorem dX1_litresIntoBarrels_17 : decode cX1_litresIntoBarrels 17 = .ok (.aload_n 0, 1) := by decide +kernel
theorem dX1_litresIntoBarrels_18 : decode cX1_litresIntoBarrels 18 = .ok (.iload_n 3, 1) := by decide +kernel
theorem dX1_litresIntoBarrels_19 : decode cX1_litresIntoBarrels 19 = .ok (.invokevirtual 104, 3) := by decide +kernel
theorem dX1_litresIntoBarrels_22 : decode cX1_litresIntoBarrels 22 = .ok (.imul, 1) := by decide +kernel
theorem dX1_litresIntoBarrels_23 : decode cX1_litresIntoBarrels 23 = .ok (.invokestatic 108, 3) := by decide +kernel
theorem dX1_litresIntoBarrels_26 : decode cX1_litresIntoBarrels 26 = .ok (.iadd, 1) := by decide +kernel
theorem dX1_litresIntoBarrels_27 : decode cX1_litresIntoBarrels 27 = .ok (.istore_n 2, 1) := by decide +kernel
theorem dX1_litresIntoBarrels_28 : decode cX1_litresIntoBarrels 28 = .ok (.iinc 3 1, 3) := by decide +kernel
theorem dX1_litresIntoBarrels_31 : decode cX1_litresIntoBarrels 31 = .ok (.goto (-27), 3) := by decide +kernel
theorem dX1_litresIntoBarrels_34 : decode cX1_litresIntoBarrels 34 = .ok (.iload_n 2, 1) := by decide +kernel
theorem dX1_litresIntoBarrels_35 : decode cX1_litresIntoBarrels 35 = .ok (.ireturn, 1) := by decide +kernel
theorem dX1_mostHailFor_0 : decode cX1_mostHailFor 0 = .ok (.aload_n 1, 1) := by decide +kernel
theorem dX1_mostHailFor_1 : decode cX1_mostHailFor 1 = .ok (.invokevirtual 113, 3) := by decide +kernel
theorem dX1_mostHailFor_4 : decode cX1_mostHailFor 4 = .ok (.aload_n 0, 1) := by decide +kernel
theorem dX1_mostHailFor_5 : decode cX1_mostHailFor 5 = .ok (.getfield 41, 3) := by decide +kernel
theorem dX1_mostHailFor_8 : decode cX1_mostHailFor 8 = .ok (.invokestatic 108, 3) := by decide +kernel
theorem dX1_mostHailFor_11 : decode cX1_mostHailFor 11 = .ok (.ireturn, 1) := by decide +kernel
theorem dX1_isLateStorm_0 : decode cX1_isLateStorm 0 = .ok (.iload_n 1, 1) := by decide +kernel
theorem dX1_isLateStorm_1 : decode cX1_isLateStorm 1 = .ok (.ifCond .lt 26, 3) := by decide +kernel
theorem dX1_isLateStorm_4 : decode cX1_isLateStorm 4 = .ok (.iload_n 1, 1) := by decide +kernel
theorem dX1_isLateStorm_5 : decode cX1_isLateStorm 5 = .ok (.aload_n 0, 1) := by decide +kernel
theorem dX1_isLateStorm_6 : decode cX1_isLateStorm 6 = .ok (.getfield 38, 3) := by decide +kernel
theorem dX1_isLateStorm_9 : decode cX1_isLateStorm 9 = .ok (.if_icmp .ge 18, 3) := by decide +kernel
theorem dX1_isLateStorm_12 : decode cX1_isLateStorm 12 = .ok (.iload_n 1, 1) := by decide +kernel
theorem dX1_isLateStorm_13 : decode cX1_isLateStorm 13 = .ok (.aload_n 0, 1) := by decide +kernel
theorem dX1_isLateStorm_14 : decode cX1_isLateStorm 14 = .ok (.getfield 38, 3) := by decide +kernel
theorem dX1_isLateStorm_17 : decode cX1_isLateStorm 17 = .ok (.bipush 12, 2) := by decide +kernel
theorem dX1_isLateStorm_19 : decode cX1_isLateStorm 19 = .ok (.isub, 1) := by decide +kernel
theorem dX1_isLateStorm_20 : decode cX1_isLateStorm 20 = .ok (.if_icmp .lt 7, 3) := by decide +kernel
theorem dX1_isLateStorm_23 : decode cX1_isLateStorm 23 = .ok (.iconst 1, 1) := by decide +kernel
theorem dX1_isLateStorm_24 : decode cX1_isLateStorm 24 = .ok (.goto 4, 3) := by decide +kernel
theorem dX1_isLateStorm_27 : decode cX1_isLateStorm 27 = .ok (.iconst 0, 1) := by decide +kernel
theorem dX1_isLateStorm_28 : decode cX1_isLateStorm 28 = .ok (.ireturn, 1) := by decide +kernel
theorem dX1_rainfallOf_0 : decode cX1_rainfallOf 0 = .ok (.aload_n 0, 1) := by decide +kernel
theorem dX1_rainfallOf_1 : decode cX1_rainfallOf 1 = .ok (.getfield 34, 3) := by decide +kernel
theorem dX1_rainfallOf_4 : decode cX1_rainfallOf 4 = .ok (.iload_n 1, 1) := by decide +kernel
theorem dX1_rainfallOf_5 : decode cX1_rainfallOf 5 = .ok (.bipush 12, 2) := by decide +kernel
theorem dX1_rainfallOf_7 : decode cX1_rainfallOf 7 = .ok (.invokestatic 117, 3) := by decide +kernel
theorem dX1_rainfallOf_10 : decode cX1_rainfallOf 10 = .ok (.aaload, 1) := by decide +kernel
theorem dX1_rainfallOf_11 : decode cX1_rainfallOf 11 = .ok (.areturn, 1) := by decide +kernel
theorem dX1_noteOf_0 : decode cX1_noteOf 0 = .ok (.aload_n 1, 1) := by decide +kernel
theorem dX1_noteOf_1 : decode cX1_noteOf 1 = .ok (.aload_n 1, 1) := by decide +kernel
theorem dX1_noteOf_2 : decode cX1_noteOf 2 = .ok (.aload_n 0, 1) := by decide +kernel
theorem dX1_noteOf_3 : decode cX1_noteOf 3 = .ok (.getfield 44, 3) := by decide +kernel
theorem dX1_noteOf_6 : decode cX1_noteOf 6 = .ok (.invokevirtual 120, 3) := by decide +kernel
theorem dX1_noteOf_9 : decode cX1_noteOf 9 = .ok (.invokevirtual 123, 3) := by decide +kernel
theorem dX1_noteOf_12 : decode cX1_noteOf 12 = .ok (.ireturn, 1) := by decide +kernel
theorem dX1_measureOf_0 : decode cX1_measureOf 0 = .ok (.aload_n 0, 1) := by decide +kernel
theorem dX1_measureOf_1 : decode cX1_measureOf 1 = .ok (.getfield 17, 3) := by decide +kernel
theorem dX1_measureOf_4 : decode cX1_measureOf 4 = .ok (.iload_n 1, 1) := by decide +kernel
theorem dX1_measureOf_5 : decode cX1_measureOf 5 = .ok (.aaload, 1) := by decide +kernel
theorem dX1_measureOf_6 : decode cX1_measureOf 6 = .ok (.astore_n 3, 1) := by decide +kernel
theorem dX1_measureOf_7 : decode cX1_measureOf 7 = .ok (.iload_n 2, 1) := by decide +kernel
theorem dX1_measureOf_8 : decode cX1_measureOf 8 = .ok (.tableswitch 48 0 2 #[28, 33, 39], 28) := by decide +kernel
theorem dX1_measureOf_36 : decode cX1_measureOf 36 = .ok (.aload_n 3, 1) := by decide +kernel
theorem dX1_measureOf_37 : decode cX1_measureOf 37 = .ok (.getfield 91, 3) := by decide +kernel
theorem dX1_measureOf_40 : decode cX1_measureOf 40 = .ok (.ireturn, 1) := by decide +kernel
theorem dX1_measureOf_41 : decode cX1_measureOf 41 = .ok (.aload_n 0, 1) := by decide +kernel
theorem dX1_measureOf_42 : decode cX1_measureOf 42 = .ok (.aload_n 3, 1) := by decide +kernel
theorem dX1_measureOf_43 : decode cX1_measureOf 43 = .ok (.invokevirtual 126, 3) := by decide +kernel
theorem dX1_measureOf_46 : decode cX1_measureOf 46 = .ok (.ireturn, 1) := by decide +kernel
theorem dX1_measureOf_47 : decode cX1_measureOf 47 = .ok (.aload_n 3, 1) := by decide +kernel
theorem dX1_measureOf_48 : decode cX1_measureOf 48 = .ok (.aload_n 0, 1) := by decide +kernel
theorem dX1_measureOf_49 : decode cX1_measureOf 49 = .ok (.getfield 44, 3) := by decide +kernel
theorem dX1_measureOf_52 : decode cX1_measureOf 52 = .ok (.invokevirtual 120, 3) := by decide +kernel
theorem dX1_measureOf_55 : decode cX1_measureOf 55 = .ok (.ireturn, 1) := by decide +kernel
theorem dX1_measureOf_56 : decode cX1_measureOf 56 = .ok (.aload_n 3, 1) := by decide +kernel
theorem dX1_measureOf_57 : decode cX1_measureOf 57 = .ok (.invokevirtual 130, 3) := by decide +kernel
theorem dX1_measureOf_60 : decode cX1_measureOf 60 = .ok (.ireturn, 1) := by decide +kernel
theorem dX1_placeOf_0 : decode cX1_placeOf 0 = .ok (.aload_n 0, 1) := by decide +kernel
theorem dX1_placeOf_1 : decode cX1_placeOf 1 = .ok (.iload_n 1, 1) := by decide +kernel
theorem dX1_placeOf_2 : decode cX1_placeOf 2 = .ok (.iload_n 2, 1) := by decide +kernel
theorem dX1_placeOf_3 : decode cX1_placeOf 3 = .ok (.invokevirtual 133, 3) := by decide +kernel
theorem dX1_placeOf_6 : decode cX1_placeOf 6 = .ok (.istore_n 3, 1) := by decide +kernel
theorem dX1_placeOf_7 : decode cX1_placeOf 7 = .ok (.iconst 0, 1) := by decide +kernel
theorem dX1_placeOf_8 : decode cX1_placeOf 8 = .ok (.istore 4, 2) := by decide +kernel
theorem dX1_placeOf_10 : decode cX1_placeOf 10 = .ok (.iconst 0, 1) := by decide +kernel
theorem dX1_placeOf_11 : decode cX1_placeOf 11 = .ok (.istore 5, 2) := by decide +kernel
theorem dX1_placeOf_13 : decode cX1_placeOf 13 = .ok (.iload 5, 2) := by decide +kernel
theorem dX1_placeOf_15 : decode cX1_placeOf 15 = .ok (.aload_n 0, 1) := by decide +kernel
theorem dX1_placeOf_16 : decode cX1_placeOf 16 = .ok (.getfield 21, 3) := by decide +kernel
theorem dX1_placeOf_19 : decode cX1_placeOf 19 = .ok (.if_icmp .ge 46, 3) := by decide +kernel
theorem dX1_placeOf_22 : decode cX1_placeOf 22 = .ok (.aload_n 0, 1) := by decide +kernel
theorem dX1_placeOf_23 : decode cX1_placeOf 23 = .ok (.iload 5, 2) := by decide +kernel
theorem dX1_placeOf_25 : decode cX1_placeOf 25 = .ok (.iload_n 2, 1) := by decide +kernel
theorem dX1_placeOf_26 : decode cX1_placeOf 26 = .ok (.invokevirtual 133, 3) := by decide +kernel
theorem dX1_placeOf_29 : decode cX1_placeOf 29 = .ok (.istore 6, 2) := by decide +kernel
theorem dX1_placeOf_31 : decode cX1_placeOf 31 = .ok (.iload 4, 2) := by decide +kernel
theorem dX1_placeOf_33 : decode cX1_placeOf 33 = .ok (.iload 6, 2) := by decide +kernel
theorem dX1_placeOf_35 : decode cX1_placeOf 35 = .ok (.iload_n 3, 1) := by decide +kernel
theorem dX1_placeOf_36 : decode cX1_placeOf 36 = .ok (.if_icmp .gt 15, 3) := by decide +kernel
theorem dX1_placeOf_39 : decode cX1_placeOf 39 = .ok (.iload 6, 2) := by decide +kernel
theorem dX1_placeOf_41 : decode cX1_placeOf 41 = .ok (.iload_n 3, 1) := by decide +kernel
theorem dX1_placeOf_42 : decode cX1_placeOf 42 = .ok (.if_icmp .ne 13, 3) := by decide +kernel
theorem dX1_placeOf_45 : decode cX1_placeOf 45 = .ok (.iload 5, 2) := by decide +kernel
theorem dX1_placeOf_47 : decode cX1_placeOf 47 = .ok (.iload_n 1, 1) := by decide +kernel
theorem dX1_placeOf_48 : decode cX1_placeOf 48 = .ok (.if_icmp .ge 7, 3) := by decide +kernel
theorem dX1_placeOf_51 : decode cX1_placeOf 51 = .ok (.iconst 1, 1) := by decide +kernel
theorem dX1_placeOf_52 : decode cX1_placeOf 52 = .ok (.goto 4, 3) := by decide +kernel
theorem dX1_placeOf_55 : decode cX1_placeOf 55 = .ok (.iconst 0, 1) := by decide +kernel
theorem dX1_placeOf_56 : decode cX1_placeOf 56 = .ok (.iadd, 1) := by decide +kernel
theorem dX1_placeOf_57 : decode cX1_placeOf 57 = .ok (.istore 4, 2) := by decide +kernel
theorem dX1_placeOf_59 : decode cX1_placeOf 59 = .ok (.iinc 5 1, 3) := by decide +kernel
theorem dX1_placeOf_62 : decode cX1_placeOf 62 = .ok (.goto (-49), 3) := by decide +kernel
theorem dX1_placeOf_65 : decode cX1_placeOf 65 = .ok (.iload 4, 2) := by decide +kernel
theorem dX1_placeOf_67 : decode cX1_placeOf 67 = .ok (.ireturn, 1) := by decide +kernel
theorem dX2_init_0 : decode cX2_init 0 = .ok (.aload_n 0, 1) := by decide +kernel
theorem dX2_init_1 : decode cX2_init 1 = .ok (.invokespecial 3, 3) := by decide +kernel
theorem dX2_init_4 : decode cX2_init 4 = .ok (.aload_n 0, 1) := by decide +kernel
theorem dX2_init_5 : decode cX2_init 5 = .ok (.bipush 9, 2) := by decide +kernel
theorem dX2_init_7 : decode cX2_init 7 = .ok (.anewarray 11, 3) := by decide +kernel
theorem dX2_init_10 : decode cX2_init 10 = .ok (.putfield 13, 3) := by decide +kernel
theorem dX2_init_13 : decode cX2_init 13 = .ok (.aload_n 0, 1) := by decide +kernel
theorem dX2_init_14 : decode cX2_init 14 = .ok (.iconst 0, 1) := by decide +kernel
theorem dX2_init_15 : decode cX2_init 15 = .ok (.putfield 17, 3) := by decide +kernel
theorem dX2_init_18 : decode cX2_init 18 = .ok (.aload_n 0, 1) := by decide +kernel
theorem dX2_init_19 : decode cX2_init 19 = .ok (.iconst 0, 1) := by decide +kernel
theorem dX2_init_20 : decode cX2_init 20 = .ok (.putfield 21, 3) := by decide +kernel
theorem dX2_init_23 : decode cX2_init 23 = .ok (.iconst 0, 1) := by decide +kernel
theorem dX2_init_24 : decode cX2_init 24 = .ok (.istore_n 1, 1) := by decide +kernel
theorem dX2_init_25 : decode cX2_init 25 = .ok (.iload_n 1, 1) := by decide +kernel
theorem dX2_init_26 : decode cX2_init 26 = .ok (.bipush 9, 2) := by decide +kernel
theorem dX2_init_28 : decode cX2_init 28 = .ok (.if_icmp .ge 22, 3) := by decide +kernel
theorem dX2_init_31 : decode cX2_init 31 = .ok (.aload_n 0, 1) := by decide +kernel
theorem dX2_init_32 : decode cX2_init 32 = .ok (.getfield 13, 3) := by decide +kernel
theorem dX2_init_35 : decode cX2_init 35 = .ok (.iload_n 1, 1) := by decide +kernel
theorem dX2_init_36 : decode cX2_init 36 = .ok (.new 11, 3) := by decide +kernel
theorem dX2_init_39 : decode cX2_init 39 = .ok (.dup, 1) := by decide +kernel
theorem dX2_init_40 : decode cX2_init 40 = .ok (.invokespecial 24, 3) := by decide +kernel
theorem dX2_init_43 : decode cX2_init 43 = .ok (.aastore, 1) := by decide +kernel
theorem dX2_init_44 : decode cX2_init 44 = .ok (.iinc 1 1, 3) := by decide +kernel
theorem dX2_init_47 : decode cX2_init 47 = .ok (.goto (-22), 3) := by decide +kernel
theorem dX2_init_50 : decode cX2_init 50 = .ok (.return_, 1) := by decide +kernel
theorem dX2_aside_0 : decode cX2_aside 0 = .ok (.aload_n 0, 1) := by decide +kernel
theorem dX2_aside_1 : decode cX2_aside 1 = .ok (.getfield 13, 3) := by decide +kernel
theorem dX2_aside_4 : decode cX2_aside 4 = .ok (.aload_n 0, 1) := by decide +kernel
theorem dX2_aside_5 : decode cX2_aside 5 = .ok (.getfield 17, 3) := by decide +kernel
theorem dX2_aside_8 : decode cX2_aside 8 = .ok (.aload_n 0, 1) := by decide +kernel
theorem dX2_aside_9 : decode cX2_aside 9 = .ok (.getfield 21, 3) := by decide +kernel
theorem dX2_aside_12 : decode cX2_aside 12 = .ok (.iadd, 1) := by decide +kernel
theorem dX2_aside_13 : decode cX2_aside 13 = .ok (.bipush 9, 2) := by decide +kernel
theorem dX2_aside_15 : decode cX2_aside 15 = .ok (.invokestatic 25, 3) := by decide +kernel
theorem dX2_aside_18 : decode cX2_aside 18 = .ok (.aaload, 1) := by decide +kernel
theorem dX2_aside_19 : decode cX2_aside 19 = .ok (.areturn, 1) := by decide +kernel
theorem dX2_setAside_0 : decode cX2_setAside 0 = .ok (.aload_n 0, 1) := by decide +kernel
theorem dX2_setAside_1 : decode cX2_setAside 1 = .ok (.invokevirtual 31, 3) := by decide +kernel
theorem dX2_setAside_4 : decode cX2_setAside 4 = .ok (.aload_n 1, 1) := by decide +kernel
theorem dX2_setAside_5 : decode cX2_setAside 5 = .ok (.invokevirtual 35, 3) := by decide +kernel
theorem dX2_setAside_8 : decode cX2_setAside 8 = .ok (.return_, 1) := by decide +kernel
theorem dX2_keepAside_0 : decode cX2_keepAside 0 = .ok (.aload_n 0, 1) := by decide +kernel
theorem dX2_keepAside_1 : decode cX2_keepAside 1 = .ok (.getfield 21, 3) := by decide +kernel
theorem dX2_keepAside_4 : decode cX2_keepAside 4 = .ok (.bipush 8, 2) := by decide +kernel
theorem dX2_keepAside_6 : decode cX2_keepAside 6 = .ok (.if_icmp .ge 16, 3) := by decide +kernel
theorem dX2_keepAside_9 : decode cX2_keepAside 9 = .ok (.aload_n 0, 1) := by decide +kernel
theorem dX2_keepAside_10 : decode cX2_keepAside 10 = .ok (.dup, 1) := by decide +kernel
theorem dX2_keepAside_11 : decode cX2_keepAside 11 = .ok (.getfield 21, 3) := by decide +kernel
theorem dX2_keepAside_14 : decode cX2_keepAside 14 = .ok (.iconst 1, 1) := by decide +kernel
theorem dX2_keepAside_15 : decode cX2_keepAside 15 = .ok (.iadd, 1) := by decide +kernel
theorem dX2_keepAside_16 : decode cX2_keepAside 16 = .ok (.putfield 21, 3) := by decide +kernel
theorem dX2_keepAside_19 : decode cX2_keepAside 19 = .ok (.goto 18, 3) := by decide +kernel
theorem dX2_keepAside_22 : decode cX2_keepAside 22 = .ok (.aload_n 0, 1) := by decide +kernel
theorem dX2_keepAside_23 : decode cX2_keepAside 23 = .ok (.aload_n 0, 1) := by decide +kernel
theorem dX2_keepAside_24 : decode cX2_keepAside 24 = .ok (.getfield 17, 3) := by decide +kernel
theorem dX2_keepAside_27 : decode cX2_keepAside 27 = .ok (.iconst 1, 1) := by decide +kernel
theorem dX2_keepAside_28 : decode cX2_keepAside 28 = .ok (.iadd, 1) := by decide +kernel
theorem dX2_keepAside_29 : decode cX2_keepAside 29 = .ok (.bipush 9, 2) := by decide +kernel
theorem dX2_keepAside_31 : decode cX2_keepAside 31 = .ok (.invokestatic 25, 3) := by decide +kernel
theorem dX2_keepAside_34 : decode cX2_keepAside 34 = .ok (.putfield 17, 3) := by decide +kernel
theorem dX2_keepAside_37 : decode cX2_keepAside 37 = .ok (.return_, 1) := by decide +kernel
theorem dX2_takeLatest_0 : decode cX2_takeLatest 0 = .ok (.aload_n 0, 1) := by decide +kernel
theorem dX2_takeLatest_1 : decode cX2_takeLatest 1 = .ok (.dup, 1) := by decide +kernel
theorem dX2_takeLatest_2 : decode cX2_takeLatest 2 = .ok (.getfield 21, 3) := by decide +kernel
theorem dX2_takeLatest_5 : decode cX2_takeLatest 5 = .ok (.iconst 1, 1) := by decide +kernel
theorem dX2_takeLatest_6 : decode cX2_takeLatest 6 = .ok (.isub, 1) := by decide +kernel
theorem dX2_takeLatest_7 : decode cX2_takeLatest 7 = .ok (.putfield 21, 3) := by decide +kernel
theorem dX2_takeLatest_10 : decode cX2_takeLatest 10 = .ok (.aload_n 0, 1) := by decide +kernel
theorem dX2_takeLatest_11 : decode cX2_takeLatest 11 = .ok (.invokevirtual 31, 3) := by decide +kernel
theorem dX2_takeLatest_14 : decode cX2_takeLatest 14 = .ok (.areturn, 1) := by decide +kernel
theorem dX2_forget_0 : decode cX2_forget 0 = .ok (.aload_n 0, 1) := by decide +kernel
theorem dX2_forget_1 : decode cX2_forget 1 = .ok (.iconst 0, 1) := by decide +kernel
theorem dX2_forget_2 : decode cX2_forget 2 = .ok (.putfield 21, 3) := by decide +kernel
theorem dX2_forget_5 : decode cX2_forget 5 = .ok (.return_, 1) := by decide +kernel
theorem dX3_init_0 : decode cX3_init 0 = .ok (.aload_n 0, 1) := by decide +kernel
theorem dX3_init_1 : decode cX3_init 1 = .ok (.invokespecial 3, 3) := by decide +kernel
theorem dX3_init_4 : decode cX3_init 4 = .ok (.aload_n 0, 1) := by decide +kernel
theorem dX3_init_5 : decode cX3_init 5 = .ok (.iconst 4, 1) := by decide +kernel
theorem dX3_init_6 : decode cX3_init 6 = .ok (.newarray .int, 2) := by decide +kernel
theorem dX3_init_8 : decode cX3_init 8 = .ok (.putfield 9, 3) := by decide +kernel
theorem dX3_init_11 : decode cX3_init 11 = .ok (.aload_n 0, 1) := by decide +kernel
theorem dX3_init_12 : decode cX3_init 12 = .ok (.iconst 4, 1) := by decide +kernel
theorem dX3_init_13 : decode cX3_init 13 = .ok (.newarray .boolean, 2) := by decide +kernel
theorem dX3_init_15 : decode cX3_init 15 = .ok (.putfield 15, 3) := by decide +kernel
theorem dX3_init_18 : decode cX3_init 18 = .ok (.aload_n 0, 1) := by decide +kernel
theorem dX3_init_19 : decode cX3_init 19 = .ok (.iconst 0, 1) := by decide +kernel
theorem dX3_init_20 : decode cX3_init 20 = .ok (.putfield 19, 3) := by decide +kernel
theorem dX3_init_23 : decode cX3_init 23 = .ok (.return_, 1) := by decide +kernel
theorem dX3_copy_0 : decode cX3_copy 0 = .ok (.iconst 0, 1) := by decide +kernel
theorem dX3_copy_1 : decode cX3_copy 1 = .ok (.istore_n 2, 1) := by decide +kernel
theorem dX3_copy_2 : decode cX3_copy 2 = .ok (.iload_n 2, 1) := by decide +kernel
theorem dX3_copy_3 : decode cX3_copy 3 = .ok (.iconst 4, 1) := by decide +kernel
theorem dX3_copy_4 : decode cX3_copy 4 = .ok (.if_icmp .ge 33, 3) := by decide +kernel
theorem dX3_copy_7 : decode cX3_copy 7 = .ok (.aload_n 0, 1) := by decide +kernel
theorem dX3_copy_8 : decode cX3_copy 8 = .ok (.getfield 9, 3) := by decide +kernel
theorem dX3_copy_11 : decode cX3_copy 11 = .ok (.iload_n 2, 1) := by decide +kernel
theorem dX3_copy_12 : decode cX3_copy 12 = .ok (.aload_n 1, 1) := by decide +kernel
theorem dX3_copy_13 : decode cX3_copy 13 = .ok (.getfield 9, 3) := by decide +kernel
theorem dX3_copy_16 : decode cX3_copy 16 = .ok (.iload_n 2, 1) := by decide +kernel
theorem dX3_copy_17 : decode cX3_copy 17 = .ok (.iaload, 1) := by decide +kernel
theorem dX3_copy_18 : decode cX3_copy 18 = .ok (.iastore, 1) := by decide +kernel
theorem dX3_copy_19 : decode cX3_copy 19 = .ok (.aload_n 0, 1) := by decide +kernel
theorem dX3_copy_20 : decode cX3_copy 20 = .ok (.getfield 15, 3) := by decide +kernel
theorem dX3_copy_23 : decode cX3_copy 23 = .ok (.iload_n 2, 1) := by decide +kernel
theorem dX3_copy_24 : decode cX3_copy 24 = .ok (.aload_n 1, 1) := by decide +kernel
theorem dX3_copy_25 : decode cX3_copy 25 = .ok (.getfield 15, 3) := by decide +kernel
theorem dX3_copy_28 : decode cX3_copy 28 = .ok (.iload_n 2, 1) := by decide +kernel
theorem dX3_copy_29 : decode cX3_copy 29 = .ok (.baload, 1) := by decide +kernel
theorem dX3_copy_30 : decode cX3_copy 30 = .ok (.bastore, 1) := by decide +kernel
theorem dX3_copy_31 : decode cX3_copy 31 = .ok (.iinc 2 1, 3) := by decide +kernel
theorem dX3_copy_34 : decode cX3_copy 34 = .ok (.goto (-32), 3) := by decide +kernel
theorem dX3_copy_37 : decode cX3_copy 37 = .ok (.aload_n 0, 1) := by decide +kernel
theorem dX3_copy_38 : decode cX3_copy 38 = .ok (.aload_n 1, 1) := by decide +kernel
theorem dX3_copy_39 : decode cX3_copy 39 = .ok (.getfield 19, 3) := by decide +kernel
theorem dX3_copy_42 : decode cX3_copy 42 = .ok (.putfield 19, 3) := by decide +kernel
theorem dX3_copy_45 : decode cX3_copy 45 = .ok (.return_, 1) := by decide +kernel
theorem dX3_has_0 : decode cX3_has 0 = .ok (.iload_n 1, 1) := by decide +kernel
theorem dX3_has_1 : decode cX3_has 1 = .ok (.ifCond .lt 15, 3) := by decide +kernel
theorem dX3_has_4 : decode cX3_has 4 = .ok (.iload_n 1, 1) := by decide +kernel
theorem dX3_has_5 : decode cX3_has 5 = .ok (.aload_n 0, 1) := by decide +kernel
theorem dX3_has_6 : decode cX3_has 6 = .ok (.getfield 19, 3) := by decide +kernel
theorem dX3_has_9 : decode cX3_has 9 = .ok (.if_icmp .ge 7, 3) := by decide +kernel
theorem dX3_has_12 : decode cX3_has 12 = .ok (.iconst 1, 1) := by decide +kernel
theorem dX3_has_13 : decode cX3_has 13 = .ok (.goto 4, 3) := by decide +kernel
theorem dX3_has_16 : decode cX3_has 16 = .ok (.iconst 0, 1) := by decide +kernel
theorem dX3_has_17 : decode cX3_has 17 = .ok (.ireturn, 1) := by decide +kernel
theorem dX3_add_0 : decode cX3_add 0 = .ok (.aload_n 0, 1) := by decide +kernel
theorem dX3_add_1 : decode cX3_add 1 = .ok (.getfield 9, 3) := by decide +kernel
theorem dX3_add_4 : decode cX3_add 4 = .ok (.aload_n 0, 1) := by decide +kernel
theorem dX3_add_5 : decode cX3_add 5 = .ok (.getfield 19, 3) := by decide +kernel
theorem dX3_add_8 : decode cX3_add 8 = .ok (.iload_n 1, 1) := by decide +kernel
theorem dX3_add_9 : decode cX3_add 9 = .ok (.iastore, 1) := by decide +kernel
theorem dX3_add_10 : decode cX3_add 10 = .ok (.aload_n 0, 1) := by decide +kernel
theorem dX3_add_11 : decode cX3_add 11 = .ok (.getfield 15, 3) := by decide +kernel
theorem dX3_add_14 : decode cX3_add 14 = .ok (.aload_n 0, 1) := by decide +kernel
theorem dX3_add_15 : decode cX3_add 15 = .ok (.getfield 19, 3) := by decide +kernel
theorem dX3_add_18 : decode cX3_add 18 = .ok (.iload_n 2, 1) := by decide +kernel
theorem dX3_add_19 : decode cX3_add 19 = .ok (.bastore, 1) := by decide +kernel
theorem dX3_add_20 : decode cX3_add 20 = .ok (.aload_n 0, 1) := by decide +kernel
theorem dX3_add_21 : decode cX3_add 21 = .ok (.dup, 1) := by decide +kernel
theorem dX3_add_22 : decode cX3_add 22 = .ok (.getfield 19, 3) := by decide +kernel
theorem dX3_add_25 : decode cX3_add 25 = .ok (.iconst 1, 1) := by decide +kernel
theorem dX3_add_26 : decode cX3_add 26 = .ok (.iadd, 1) := by decide +kernel
theorem dX3_add_27 : decode cX3_add 27 = .ok (.putfield 19, 3) := by decide +kernel
theorem dX3_add_30 : decode cX3_add 30 = .ok (.return_, 1) := by decide +kernel
theorem dX3_remove_0 : decode cX3_remove 0 = .ok (.iload_n 1, 1) := by decide +kernel
theorem dX3_remove_1 : decode cX3_remove 1 = .ok (.istore_n 2, 1) := by decide +kernel
theorem dX3_remove_2 : decode cX3_remove 2 = .ok (.iload_n 2, 1) := by decide +kernel
theorem dX3_remove_3 : decode cX3_remove 3 = .ok (.iconst 1, 1) := by decide +kernel
theorem dX3_remove_4 : decode cX3_remove 4 = .ok (.iadd, 1) := by decide +kernel
theorem dX3_remove_5 : decode cX3_remove 5 = .ok (.aload_n 0, 1) := by decide +kernel
theorem dX3_remove_6 : decode cX3_remove 6 = .ok (.getfield 19, 3) := by decide +kernel
theorem dX3_remove_9 : decode cX3_remove 9 = .ok (.if_icmp .ge 37, 3) := by decide +kernel
theorem dX3_remove_12 : decode cX3_remove 12 = .ok (.aload_n 0, 1) := by decide +kernel
theorem dX3_remove_13 : decode cX3_remove 13 = .ok (.getfield 9, 3) := by decide +kernel
theorem dX3_remove_16 : decode cX3_remove 16 = .ok (.iload_n 2, 1) := by decide +kernel
theorem dX3_remove_17 : decode cX3_remove 17 = .ok (.aload_n 0, 1) := by decide +kernel
theorem dX3_remove_18 : decode cX3_remove 18 = .ok (.getfield 9, 3) := by decide +kernel
theorem dX3_remove_21 : decode cX3_remove 21 = .ok (.iload_n 2, 1) := by decide +kernel
theorem dX3_remove_22 : decode cX3_remove 22 = .ok (.iconst 1, 1) := by decide +kernel
theorem dX3_remove_23 : decode cX3_remove 23 = .ok (.iadd, 1) := by decide +kernel
theorem dX3_remove_24 : decode cX3_remove 24 = .ok (.iaload, 1) := by decide +kernel
theorem dX3_remove_25 : decode cX3_remove 25 = .ok (.iastore, 1) := by decide +kernel
theorem dX3_remove_26 : decode cX3_remove 26 = .ok (.aload_n 0, 1) := by decide +kernel
theorem dX3_remove_27 : decode cX3_remove 27 = .ok (.getfield 15, 3) := by decide +kernel
theorem dX3_remove_30 : decode cX3_remove 30 = .ok (.iload_n 2, 1) := by decide +kernel
theorem dX3_remove_31 : decode cX3_remove 31 = .ok (.aload_n 0, 1) := by decide +kernel
theorem dX3_remove_32 : decode cX3_remove 32 = .ok (.getfield 15, 3) := by decide +kernel
theorem dX3_remove_35 : decode cX3_remove 35 = .ok (.iload_n 2, 1) := by decide +kernel
theorem dX3_remove_36 : decode cX3_remove 36 = .ok (.iconst 1, 1) := by decide +kernel
theorem dX3_remove_37 : decode cX3_remove 37 = .ok (.iadd, 1) := by decide +kernel
theorem dX3_remove_38 : decode cX3_remove 38 = .ok (.baload, 1) := by decide +kernel
theorem dX3_remove_39 : decode cX3_remove 39 = .ok (.bastore, 1) := by decide +kernel
theorem dX3_remove_40 : decode cX3_remove 40 = .ok (.iinc 2 1, 3) := by decide +kernel
theorem dX3_remove_43 : decode cX3_remove 43 = .ok (.goto (-41), 3) := by decide +kernel
theorem dX3_remove_46 : decode cX3_remove 46 = .ok (.aload_n 0, 1) := by decide +kernel
theorem dX3_remove_47 : decode cX3_remove 47 = .ok (.dup, 1) := by decide +kernel
theorem dX3_remove_48 : decode cX3_remove 48 = .ok (.getfield 19, 3) := by decide +kernel
theorem dX3_remove_51 : decode cX3_remove 51 = .ok (.iconst 1, 1) := by decide +kernel
theorem dX3_remove_52 : decode cX3_remove 52 = .ok (.isub, 1) := by decide +kernel
theorem dX3_remove_53 : decode cX3_remove 53 = .ok (.putfield 19, 3) := by decide +kernel
theorem dX3_remove_56 : decode cX3_remove 56 = .ok (.return_, 1) := by decide +kernel
theorem dX3_doesNotice_0 : decode cX3_doesNotice 0 = .ok (.aload_n 0, 1) := by decide +kernel
theorem dX3_doesNotice_1 : decode cX3_doesNotice 1 = .ok (.iload_n 1, 1) := by decide +kernel
theorem dX3_doesNotice_2 : decode cX3_doesNotice 2 = .ok (.invokevirtual 23, 3) := by decide +kernel
theorem dX3_doesNotice_5 : decode cX3_doesNotice 5 = .ok (.iload_n 2, 1) := by decide +kernel
theorem dX3_doesNotice_6 : decode cX3_doesNotice 6 = .ok (.invokestatic 27, 3) := by decide +kernel
theorem dX3_doesNotice_9 : decode cX3_doesNotice 9 = .ok (.ireturn, 1) := by decide +kernel
theorem dX3_thoseWhoNotice_0 : decode cX3_thoseWhoNotice 0 = .ok (.iconst 0, 1) := by decide +kernel
theorem dX3_thoseWhoNotice_1 : decode cX3_thoseWhoNotice 1 = .ok (.istore_n 2, 1) := by decide +kernel
theorem dX3_thoseWhoNotice_2 : decode cX3_thoseWhoNotice 2 = .ok (.iconst 0, 1) := by decide +kernel
theorem dX3_thoseWhoNotice_3 : decode cX3_thoseWhoNotice 3 = .ok (.istore_n 3, 1) := by decide +kernel
theorem dX3_thoseWhoNotice_4 : decode cX3_thoseWhoNotice 4 = .ok (.iload_n 3, 1) := by decide +kernel
theorem dX3_thoseWhoNotice_5 : decode cX3_thoseWhoNotice 5 = .ok (.aload_n 0, 1) := by decide +kernel
theorem dX3_thoseWhoNotice_6 : decode cX3_thoseWhoNotice 6 = .ok (.getfield 19, 3) := by decide +kernel
theorem dX3_thoseWhoNotice_9 : decode cX3_thoseWhoNotice 9 = .ok (.if_icmp .ge 24, 3) := by decide +kernel
theorem dX3_thoseWhoNotice_12 : decode cX3_thoseWhoNotice 12 = .ok (.aload_n 0, 1) := by decide +kernel
theorem dX3_thoseWhoNotice_13 : decode cX3_thoseWhoNotice 13 = .ok (.iload_n 3, 1) := by decide +kernel
theorem dX3_thoseWhoNotice_14 : decode cX3_thoseWhoNotice 14 = .ok (.iload_n 1, 1) := by decide +kernel
theorem dX3_thoseWhoNotice_15 : decode cX3_thoseWhoNotice 15 = .ok (.invokevirtual 31, 3) := by decide +kernel
theorem dX3_thoseWhoNotice_18 : decode cX3_thoseWhoNotice 18 = .ok (.ifCond .eq 9, 3) := by decide +kernel
theorem dX3_thoseWhoNotice_21 : decode cX3_thoseWhoNotice 21 = .ok (.iload_n 2, 1) := by decide +kernel
theorem dX3_thoseWhoNotice_22 : decode cX3_thoseWhoNotice 22 = .ok (.iconst 1, 1) := by decide +kernel
theorem dX3_thoseWhoNotice_23 : decode cX3_thoseWhoNotice 23 = .ok (.iload_n 3, 1) := by decide +kernel
theorem dX3_thoseWhoNotice_24 : decode cX3_thoseWhoNotice 24 = .ok (.ishl, 1) := by decide +kernel
theorem dX3_thoseWhoNotice_25 : decode cX3_thoseWhoNotice 25 = .ok (.ior, 1) := by decide +kernel
theorem dX3_thoseWhoNotice_26 : decode cX3_thoseWhoNotice 26 = .ok (.istore_n 2, 1) := by decide +kernel
theorem dX3_thoseWhoNotice_27 : decode cX3_thoseWhoNotice 27 = .ok (.iinc 3 1, 3) := by decide +kernel
theorem dX3_thoseWhoNotice_30 : decode cX3_thoseWhoNotice 30 = .ok (.goto (-26), 3) := by decide +kernel
theorem dX3_thoseWhoNotice_33 : decode cX3_thoseWhoNotice 33 = .ok (.iload_n 2, 1) := by decide +kernel
theorem dX3_thoseWhoNotice_34 : decode cX3_thoseWhoNotice 34 = .ok (.ireturn, 1) := by decide +kernel
theorem dX3_doesBestNotice_0 : decode cX3_doesBestNotice 0 = .ok (.iconst 0, 1) := by decide +kernel
theorem dX3_doesBestNotice_1 : decode cX3_doesBestNotice 1 = .ok (.istore_n 2, 1) := by decide +kernel
theorem dX3_doesBestNotice_2 : decode cX3_doesBestNotice 2 = .ok (.iconst 0, 1) := by decide +kernel
theorem dX3_doesBestNotice_3 : decode cX3_doesBestNotice 3 = .ok (.istore_n 3, 1) := by decide +kernel
theorem dX3_doesBestNotice_4 : decode cX3_doesBestNotice 4 = .ok (.iload_n 3, 1) := by decide +kernel
theorem dX3_doesBestNotice_5 : decode cX3_doesBestNotice 5 = .ok (.aload_n 0, 1) := by decide +kernel
theorem dX3_doesBestNotice_6 : decode cX3_doesBestNotice 6 = .ok (.getfield 19, 3) := by decide +kernel
theorem dX3_doesBestNotice_9 : decode cX3_doesBestNotice 9 = .ok (.if_icmp .ge 19, 3) := by decide +kernel
theorem dX3_doesBestNotice_12 : decode cX3_doesBestNotice 12 = .ok (.iload_n 2, 1) := by decide +kernel
theorem dX3_doesBestNotice_13 : decode cX3_doesBestNotice 13 = .ok (.aload_n 0, 1) := by decide +kernel
theorem dX3_doesBestNotice_14 : decode cX3_doesBestNotice 14 = .ok (.iload_n 3, 1) := by decide +kernel
theorem dX3_doesBestNotice_15 : decode cX3_doesBestNotice 15 = .ok (.invokevirtual 23, 3) := by decide +kernel
theorem dX3_doesBestNotice_18 : decode cX3_doesBestNotice 18 = .ok (.invokestatic 34, 3) := by decide +kernel
theorem dX3_doesBestNotice_21 : decode cX3_doesBestNotice 21 = .ok (.istore_n 2, 1) := by decide +kernel
theorem dX3_doesBestNotice_22 : decode cX3_doesBestNotice 22 = .ok (.iinc 3 1, 3) := by decide +kernel
theorem dX3_doesBestNotice_25 : decode cX3_doesBestNotice 25 = .ok (.goto (-21), 3) := by decide +kernel
theorem dX3_doesBestNotice_28 : decode cX3_doesBestNotice 28 = .ok (.aload_n 0, 1) := by decide +kernel
theorem dX3_doesBestNotice_29 : decode cX3_doesBestNotice 29 = .ok (.getfield 19, 3) := by decide +kernel
theorem dX3_doesBestNotice_32 : decode cX3_doesBestNotice 32 = .ok (.ifCond .le 15, 3) := by decide +kernel
theorem dX3_doesBestNotice_35 : decode cX3_doesBestNotice 35 = .ok (.iload_n 2, 1) := by decide +kernel
theorem dX3_doesBestNotice_36 : decode cX3_doesBestNotice 36 = .ok (.iload_n 1, 1) := by decide +kernel
theorem dX3_doesBestNotice_37 : decode cX3_doesBestNotice 37 = .ok (.invokestatic 27, 3) := by decide +kernel
theorem dX3_doesBestNotice_40 : decode cX3_doesBestNotice 40 = .ok (.ifCond .eq 7, 3) := by decide +kernel
theorem dX3_doesBestNotice_43 : decode cX3_doesBestNotice 43 = .ok (.iconst 1, 1) := by decide +kernel
theorem dX3_doesBestNotice_44 : decode cX3_doesBestNotice 44 = .ok (.goto 4, 3) := by decide +kernel
theorem dX3_doesBestNotice_47 : decode cX3_doesBestNotice 47 = .ok (.iconst 0, 1) := by decide +kernel
theorem dX3_doesBestNotice_48 : decode cX3_doesBestNotice 48 = .ok (.ireturn, 1) := by decide +kernel
theorem dX3_mildPalate_0 : decode cX3_mildPalate 0 = .ok (.aload_n 0, 1) := by decide +kernel
theorem dX3_mildPalate_1 : decode cX3_mildPalate 1 = .ok (.getfield 9, 3) := by decide +kernel
theorem dX3_mildPalate_4 : decode cX3_mildPalate 4 = .ok (.iload_n 1, 1) := by decide +kernel
theorem dX3_mildPalate_5 : decode cX3_mildPalate 5 = .ok (.iaload, 1) := by decide +kernel
theorem dX3_mildPalate_6 : decode cX3_mildPalate 6 = .ok (.aload_n 0, 1) := by decide +kernel
theorem dX3_mildPalate_7 : decode cX3_mildPalate 7 = .ok (.getfield 15, 3) := by decide +kernel
theorem dX3_mildPalate_10 : decode cX3_mildPalate 10 = .ok (.iload_n 1, 1) := by decide +kernel
theorem dX3_mildPalate_11 : decode cX3_mildPalate 11 = .ok (.baload, 1) := by decide +kernel
theorem dX3_mildPalate_12 : decode cX3_mildPalate 12 = .ok (.ifCond .eq 7, 3) := by decide +kernel
theorem dX3_mildPalate_15 : decode cX3_mildPalate 15 = .ok (.iconst 2, 1) := by decide +kernel
theorem dX3_mildPalate_16 : decode cX3_mildPalate 16 = .ok (.goto 4, 3) := by decide +kernel
theorem dX3_mildPalate_19 : decode cX3_mildPalate 19 = .ok (.iconst 0, 1) := by decide +kernel
theorem dX3_mildPalate_20 : decode cX3_mildPalate 20 = .ok (.iadd, 1) := by decide +kernel
theorem dX3_mildPalate_21 : decode cX3_mildPalate 21 = .ok (.ireturn, 1) := by decide +kernel
theorem dX3_doesPalateNotice_0 : decode cX3_doesPalateNotice 0 = .ok (.iload_n 1, 1) := by decide +kernel
theorem dX3_doesPalateNotice_1 : decode cX3_doesPalateNotice 1 = .ok (.ifCond .le 17, 3) := by decide +kernel
theorem dX3_doesPalateNotice_4 : decode cX3_doesPalateNotice 4 = .ok (.iload_n 1, 1) := by decide +kernel
theorem dX3_doesPalateNotice_5 : decode cX3_doesPalateNotice 5 = .ok (.bipush 50, 2) := by decide +kernel
theorem dX3_doesPalateNotice_7 : decode cX3_doesPalateNotice 7 = .ok (.iconst 5, 1) := by decide +kernel
theorem dX3_doesPalateNotice_8 : decode cX3_doesPalateNotice 8 = .ok (.iload_n 0, 1) := by decide +kernel
theorem dX3_doesPalateNotice_9 : decode cX3_doesPalateNotice 9 = .ok (.imul, 1) := by decide +kernel
theorem dX3_doesPalateNotice_10 : decode cX3_doesPalateNotice 10 = .ok (.isub, 1) := by decide +kernel
theorem dX3_doesPalateNotice_11 : decode cX3_doesPalateNotice 11 = .ok (.if_icmp .le 7, 3) := by decide +kernel
theorem dX3_doesPalateNotice_14 : decode cX3_doesPalateNotice 14 = .ok (.iconst 1, 1) := by decide +kernel
theorem dX3_doesPalateNotice_15 : decode cX3_doesPalateNotice 15 = .ok (.goto 4, 3) := by decide +kernel
theorem dX3_doesPalateNotice_18 : decode cX3_doesPalateNotice 18 = .ok (.iconst 0, 1) := by decide +kernel
theorem dX3_doesPalateNotice_19 : decode cX3_doesPalateNotice 19 = .ok (.ireturn, 1) := by decide +kernel
theorem dX4_init_0 : decode cX4_init 0 = .ok (.aload_n 0, 1) := by decide +kernel
theorem dX4_init_1 : decode cX4_init 1 = .ok (.invokespecial 1, 3) := by decide +kernel
theorem dX4_init_4 : decode cX4_init 4 = .ok (.aload_n 0, 1) := by decide +kernel
theorem dX4_init_5 : decode cX4_init 5 = .ok (.iconst 0, 1) := by decide +kernel
theorem dX4_init_6 : decode cX4_init 6 = .ok (.putfield 7, 3) := by decide +kernel
theorem dX4_init_9 : decode cX4_init 9 = .ok (.aload_n 0, 1) := by decide +kernel
theorem dX4_init_10 : decode cX4_init 10 = .ok (.iconst 0, 1) := by decide +kernel
theorem dX4_init_11 : decode cX4_init 11 = .ok (.putfield 13, 3) := by decide +kernel
theorem dX4_init_14 : decode cX4_init 14 = .ok (.aload_n 0, 1) := by decide +kernel
theorem dX4_init_15 : decode cX4_init 15 = .ok (.iconst 0, 1) := by decide +kernel
theorem dX4_init_16 : decode cX4_init 16 = .ok (.putfield 16, 3) := by decide +kernel
theorem dX4_init_19 : decode cX4_init 19 = .ok (.return_, 1) := by decide +kernel
theorem dX4_copy_0 : decode cX4_copy 0 = .ok (.aload_n 0, 1) := by decide +kernel
theorem dX4_copy_1 : decode cX4_copy 1 = .ok (.aload_n 1, 1) := by decide +kernel
theorem dX4_copy_2 : decode cX4_copy 2 = .ok (.getfield 7, 3) := by decide +kernel
theorem dX4_copy_5 : decode cX4_copy 5 = .ok (.putfield 7, 3) := by decide +kernel
theorem dX4_copy_8 : decode cX4_copy 8 = .ok (.aload_n 0, 1) := by decide +kernel
theorem dX4_copy_9 : decode cX4_copy 9 = .ok (.aload_n 1, 1) := by decide +kernel
theorem dX4_copy_10 : decode cX4_copy 10 = .ok (.getfield 13, 3) := by decide +kernel
theorem dX4_copy_13 : decode cX4_copy 13 = .ok (.putfield 13, 3) := by decide +kernel
theorem dX4_copy_16 : decode cX4_copy 16 = .ok (.aload_n 0, 1) := by decide +kernel
theorem dX4_copy_17 : decode cX4_copy 17 = .ok (.aload_n 1, 1) := by decide +kernel
theorem dX4_copy_18 : decode cX4_copy 18 = .ok (.getfield 16, 3) := by decide +kernel
theorem dX4_copy_21 : decode cX4_copy 21 = .ok (.putfield 16, 3) := by decide +kernel
theorem dX4_copy_24 : decode cX4_copy 24 = .ok (.return_, 1) := by decide +kernel
theorem dX5_init_0 : decode cX5_init 0 = .ok (.aload_n 0, 1) := by decide +kernel
theorem dX5_init_1 : decode cX5_init 1 = .ok (.invokespecial 3, 3) := by decide +kernel
theorem dX5_init_4 : decode cX5_init 4 = .ok (.aload_n 0, 1) := by decide +kernel
theorem dX5_init_5 : decode cX5_init 5 = .ok (.iconst 0, 1) := by decide +kernel
theorem dX5_init_6 : decode cX5_init 6 = .ok (.putfield 9, 3) := by decide +kernel
theorem dX5_init_9 : decode cX5_init 9 = .ok (.aload_n 0, 1) := by decide +kernel
theorem dX5_init_10 : decode cX5_init 10 = .ok (.iconst 0, 1) := by decide +kernel
theorem dX5_init_11 : decode cX5_init 11 = .ok (.putfield 15, 3) := by decide +kernel
theorem dX5_init_14 : decode cX5_init 14 = .ok (.aload_n 0, 1) := by decide +kernel
theorem dX5_init_15 : decode cX5_init 15 = .ok (.iconst 0, 1) := by decide +kernel
theorem dX5_init_16 : decode cX5_init 16 = .ok (.putfield 18, 3) := by decide +kernel
theorem dX5_init_19 : decode cX5_init 19 = .ok (.return_, 1) := by decide +kernel
theorem dX5_because_0 : decode cX5_because 0 = .ok (.aload_n 0, 1) := by decide +kernel
theorem dX5_because_1 : decode cX5_because 1 = .ok (.iload_n 1, 1) := by decide +kernel
theorem dX5_because_2 : decode cX5_because 2 = .ok (.putfield 9, 3) := by decide +kernel
theorem dX5_because_5 : decode cX5_because 5 = .ok (.aload_n 0, 1) := by decide +kernel
theorem dX5_because_6 : decode cX5_because 6 = .ok (.iload_n 2, 1) := by decide +kernel
theorem dX5_because_7 : decode cX5_because 7 = .ok (.putfield 15, 3) := by decide +kernel
theorem dX5_because_10 : decode cX5_because 10 = .ok (.aload_n 0, 1) := by decide +kernel
theorem dX5_because_11 : decode cX5_because 11 = .ok (.iconst 0, 1) := by decide +kernel
theorem dX5_because_12 : decode cX5_because 12 = .ok (.putfield 18, 3) := by decide +kernel
theorem dX5_because_15 : decode cX5_because 15 = .ok (.iconst (-1), 1) := by decide +kernel
theorem dX5_because_16 : decode cX5_because 16 = .ok (.ireturn, 1) := by decide +kernel
theorem dX6_init_0 : decode cX6_init 0 = .ok (.aload_n 0, 1) := by decide +kernel
theorem dX6_init_1 : decode cX6_init 1 = .ok (.invokespecial 3, 3) := by decide +kernel
theorem dX6_init_4 : decode cX6_init 4 = .ok (.aload_n 0, 1) := by decide +kernel
theorem dX6_init_5 : decode cX6_init 5 = .ok (.bipush 60, 2) := by decide +kernel
theorem dX6_init_7 : decode cX6_init 7 = .ok (.newarray .char, 2) := by decide +kernel
theorem dX6_init_9 : decode cX6_init 9 = .ok (.putfield 9, 3) := by decide +kernel
theorem dX6_init_12 : decode cX6_init 12 = .ok (.aload_n 0, 1) := by decide +kernel
theorem dX6_init_13 : decode cX6_init 13 = .ok (.iconst 0, 1) := by decide +kernel
theorem dX6_init_14 : decode cX6_init 14 = .ok (.putfield 15, 3) := by decide +kernel
theorem dX6_init_17 : decode cX6_init 17 = .ok (.aload_n 0, 1) := by decide +kernel
theorem dX6_init_18 : decode cX6_init 18 = .ok (.bipush 60, 2) := by decide +kernel
theorem dX6_init_20 : decode cX6_init 20 = .ok (.newarray .char, 2) := by decide +kernel
theorem dX6_init_22 : decode cX6_init 22 = .ok (.putfield 19, 3) := by decide +kernel
theorem dX6_init_25 : decode cX6_init 25 = .ok (.aload_n 0, 1) := by decide +kernel
theorem dX6_init_26 : decode cX6_init 26 = .ok (.sipush 180, 3) := by decide +kernel
theorem dX6_init_29 : decode cX6_init 29 = .ok (.newarray .int, 2) := by decide +kernel
theorem dX6_init_31 : decode cX6_init 31 = .ok (.putfield 22, 3) := by decide +kernel
theorem dX6_init_34 : decode cX6_init 34 = .ok (.aload_n 0, 1) := by decide +kernel
theorem dX6_init_35 : decode cX6_init 35 = .ok (.iconst 0, 1) := by decide +kernel
theorem dX6_init_36 : decode cX6_init 36 = .ok (.putfield 26, 3) := by decide +kernel
theorem dX6_init_39 : decode cX6_init 39 = .ok (.aload_n 0, 1) := by decide +kernel
theorem dX6_init_40 : decode cX6_init 40 = .ok (.iconst 0, 1) := by decide +kernel
theorem dX6_init_41 : decode cX6_init 41 = .ok (.putfield 29, 3) := by decide +kernel
theorem dX6_init_44 : decode cX6_init 44 = .ok (.aload_n 0, 1) := by decide +kernel
theorem dX6_init_45 : decode cX6_init 45 = .ok (.iconst 0, 1) := by decide +kernel
theorem dX6_init_46 : decode cX6_init 46 = .ok (.putfield 32, 3) := by decide +kernel
theorem dX6_init_49 : decode cX6_init 49 = .ok (.return_, 1) := by decide +kernel
theorem dX6_add_0 : decode cX6_add 0 = .ok (.aload_n 0, 1) := by decide +kernel
theorem dX6_add_1 : decode cX6_add 1 = .ok (.getfield 9, 3) := by decide +kernel
theorem dX6_add_4 : decode cX6_add 4 = .ok (.aload_n 0, 1) := by decide +kernel
theorem dX6_add_5 : decode cX6_add 5 = .ok (.getfield 15, 3) := by decide +kernel
theorem dX6_add_8 : decode cX6_add 8 = .ok (.iload_n 1, 1) := by decide +kernel
theorem dX6_add_9 : decode cX6_add 9 = .ok (.castore, 1) := by decide +kernel
theorem dX6_add_10 : decode cX6_add 10 = .ok (.aload_n 0, 1) := by decide +kernel
theorem dX6_add_11 : decode cX6_add 11 = .ok (.dup, 1) := by decide +kernel
theorem dX6_add_12 : decode cX6_add 12 = .ok (.getfield 15, 3) := by decide +kernel
theorem dX6_add_15 : decode cX6_add 15 = .ok (.iconst 1, 1) := by decide +kernel
theorem dX6_add_16 : decode cX6_add 16 = .ok (.iadd, 1) := by decide +kernel
theorem dX6_add_17 : decode cX6_add 17 = .ok (.putfield 15, 3) := by decide +kernel
theorem dX6_add_20 : decode cX6_add 20 = .ok (.return_, 1) := by decide +kernel
theorem dX6_makeEmpty_0 : decode cX6_makeEmpty 0 = .ok (.aload_n 0, 1) := by decide +kernel
theorem dX6_makeEmpty_1 : decode cX6_makeEmpty 1 = .ok (.iconst 0, 1) := by decide +kernel
theorem dX6_makeEmpty_2 : decode cX6_makeEmpty 2 = .ok (.putfield 15, 3) := by decide +kernel
theorem dX6_makeEmpty_5 : decode cX6_makeEmpty 5 = .ok (.return_, 1) := by decide +kernel
theorem dX6_numberOf_0 : decode cX6_numberOf 0 = .ok (.aload_n 0, 1) := by decide +kernel
theorem dX6_numberOf_1 : decode cX6_numberOf 1 = .ok (.getfield 22, 3) := by decide +kernel
theorem dX6_numberOf_4 : decode cX6_numberOf 4 = .ok (.iload_n 1, 1) := by decide +kernel
theorem dX6_numberOf_5 : decode cX6_numberOf 5 = .ok (.iconst 3, 1) := by decide +kernel
theorem dX6_numberOf_6 : decode cX6_numberOf 6 = .ok (.imul, 1) := by decide +kernel
theorem dX6_numberOf_7 : decode cX6_numberOf 7 = .ok (.iload_n 2, 1) := by decide +kernel
theorem dX6_numberOf_8 : decode cX6_numberOf 8 = .ok (.iadd, 1) := by decide +kernel
theorem dX6_numberOf_9 : decode cX6_numberOf 9 = .ok (.iaload, 1) := by decide +kernel
theorem dX6_numberOf_10 : decode cX6_numberOf 10 = .ok (.ireturn, 1) := by decide +kernel
theorem dX6_read_0 : decode cX6_read 0 = .ok (.aload_n 0, 1) := by decide +kernel
theorem dX6_read_1 : decode cX6_read 1 = .ok (.iconst 0, 1) := by decide +kernel
theorem dX6_read_2 : decode cX6_read 2 = .ok (.putfield 29, 3) := by decide +kernel
theorem dX6_read_5 : decode cX6_read 5 = .ok (.aload_n 0, 1) := by decide +kernel
theorem dX6_read_6 : decode cX6_read 6 = .ok (.iconst 0, 1) := by decide +kernel
theorem dX6_read_7 : decode cX6_read 7 = .ok (.putfield 26, 3) := by decide +kernel
theorem dX6_read_10 : decode cX6_read 10 = .ok (.iconst 0, 1) := by decide +kernel
theorem dX6_read_11 : decode cX6_read 11 = .ok (.istore_n 1, 1) := by decide +kernel
theorem dX6_read_12 : decode cX6_read 12 = .ok (.iload_n 1, 1) := by decide +kernel
theorem dX6_read_13 : decode cX6_read 13 = .ok (.bipush 60, 2) := by decide +kernel
theorem dX6_read_15 : decode cX6_read 15 = .ok (.if_icmp .ge 43, 3) := by decide +kernel
theorem dX6_read_18 : decode cX6_read 18 = .ok (.aload_n 0, 1) := by decide +kernel
theorem dX6_read_19 : decode cX6_read 19 = .ok (.invokevirtual 35, 3) := by decide +kernel
theorem dX6_read_22 : decode cX6_read 22 = .ok (.ifCond .eq 36, 3) := by decide +kernel
theorem dX6_read_25 : decode cX6_read 25 = .ok (.aload_n 0, 1) := by decide +kernel
theorem dX6_read_26 : decode cX6_read 26 = .ok (.getfield 29, 3) := by decide +kernel
theorem dX6_read_29 : decode cX6_read 29 = .ok (.aload_n 0, 1) := by decide +kernel
theorem dX6_read_30 : decode cX6_read 30 = .ok (.getfield 15, 3) := by decide +kernel
theorem dX6_read_33 : decode cX6_read 33 = .ok (.if_icmp .ne 5, 3) := by decide +kernel
theorem dX6_read_36 : decode cX6_read 36 = .ok (.iconst (-1), 1) := by decide +kernel
theorem dX6_read_37 : decode cX6_read 37 = .ok (.ireturn, 1) := by decide +kernel
theorem dX6_read_38 : decode cX6_read 38 = .ok (.aload_n 0, 1) := by decide +kernel
theorem dX6_read_39 : decode cX6_read 39 = .ok (.bipush 59, 2) := by decide +kernel
theorem dX6_read_41 : decode cX6_read 41 = .ok (.invokevirtual 39, 3) := by decide +kernel
theorem dX6_read_44 : decode cX6_read 44 = .ok (.ifCond .ne 8, 3) := by decide +kernel
theorem dX6_read_47 : decode cX6_read 47 = .ok (.aload_n 0, 1) := by decide +kernel
theorem dX6_read_48 : decode cX6_read 48 = .ok (.getfield 29, 3) := by decide +kernel
theorem dX6_read_51 : decode cX6_read 51 = .ok (.ireturn, 1) := by decide +kernel
theorem dX6_read_52 : decode cX6_read 52 = .ok (.iinc 1 1, 3) := by decide +kernel
theorem dX6_read_55 : decode cX6_read 55 = .ok (.goto (-43), 3) := by decide +kernel
theorem dX6_read_58 : decode cX6_read 58 = .ok (.aload_n 0, 1) := by decide +kernel
theorem dX6_read_59 : decode cX6_read 59 = .ok (.getfield 29, 3) := by decide +kernel
theorem dX6_read_62 : decode cX6_read 62 = .ok (.ireturn, 1) := by decide +kernel
theorem dX6_readCommand_0 : decode cX6_readCommand 0 = .ok (.aload_n 0, 1) := by decide +kernel
theorem dX6_readCommand_1 : decode cX6_readCommand 1 = .ok (.getfield 29, 3) := by decide +kernel
theorem dX6_readCommand_4 : decode cX6_readCommand 4 = .ok (.aload_n 0, 1) := by decide +kernel
theorem dX6_readCommand_5 : decode cX6_readCommand 5 = .ok (.getfield 15, 3) := by decide +kernel
theorem dX6_readCommand_8 : decode cX6_readCommand 8 = .ok (.if_icmp .ge 20, 3) := by decide +kernel
theorem dX6_readCommand_11 : decode cX6_readCommand 11 = .ok (.ldc 43, 2) := by decide +kernel
theorem dX6_readCommand_13 : decode cX6_readCommand 13 = .ok (.aload_n 0, 1) := by decide +kernel
theorem dX6_readCommand_14 : decode cX6_readCommand 14 = .ok (.getfield 9, 3) := by decide +kernel
theorem dX6_readCommand_17 : decode cX6_readCommand 17 = .ok (.aload_n 0, 1) := by decide +kernel
theorem dX6_readCommand_18 : decode cX6_readCommand 18 = .ok (.getfield 29, 3) := by decide +kernel
theorem dX6_readCommand_21 : decode cX6_readCommand 21 = .ok (.caload, 1) := by decide +kernel
theorem dX6_readCommand_22 : decode cX6_readCommand 22 = .ok (.invokevirtual 45, 3) := by decide +kernel
theorem dX6_readCommand_25 : decode cX6_readCommand 25 = .ok (.ifCond .ge 5, 3) := by decide +kernel
theorem dX6_readCommand_28 : decode cX6_readCommand 28 = .ok (.iconst 0, 1) := by decide +kernel
theorem dX6_readCommand_29 : decode cX6_readCommand 29 = .ok (.ireturn, 1) := by decide +kernel
theorem dX6_readCommand_30 : decode cX6_readCommand 30 = .ok (.aload_n 0, 1) := by decide +kernel
theorem dX6_readCommand_31 : decode cX6_readCommand 31 = .ok (.getfield 9, 3) := by decide +kernel
theorem dX6_readCommand_34 : decode cX6_readCommand 34 = .ok (.aload_n 0, 1) := by decide +kernel
theorem dX6_readCommand_35 : decode cX6_readCommand 35 = .ok (.getfield 29, 3) := by decide +kernel
theorem dX6_readCommand_38 : decode cX6_readCommand 38 = .ok (.caload, 1) := by decide +kernel
theorem dX6_readCommand_39 : decode cX6_readCommand 39 = .ok (.invokestatic 51, 3) := by decide +kernel
theorem dX6_readCommand_42 : decode cX6_readCommand 42 = .ok (.astore_n 1, 1) := by decide +kernel
theorem dX6_readCommand_43 : decode cX6_readCommand 43 = .ok (.aload_n 0, 1) := by decide +kernel
theorem dX6_readCommand_44 : decode cX6_readCommand 44 = .ok (.getfield 19, 3) := by decide +kernel
theorem dX6_readCommand_47 : decode cX6_readCommand 47 = .ok (.aload_n 0, 1) := by decide +kernel
theorem dX6_readCommand_48 : decode cX6_readCommand 48 = .ok (.getfield 26, 3) := by decide +kernel
theorem dX6_readCommand_51 : decode cX6_readCommand 51 = .ok (.aload_n 0, 1) := by decide +kernel
theorem dX6_readCommand_52 : decode cX6_readCommand 52 = .ok (.getfield 9, 3) := by decide +kernel
theorem dX6_readCommand_55 : decode cX6_readCommand 55 = .ok (.aload_n 0, 1) := by decide +kernel
theorem dX6_readCommand_56 : decode cX6_readCommand 56 = .ok (.getfield 29, 3) := by decide +kernel
theorem dX6_readCommand_59 : decode cX6_readCommand 59 = .ok (.caload, 1) := by decide +kernel
theorem dX6_readCommand_60 : decode cX6_readCommand 60 = .ok (.castore, 1) := by decide +kernel
theorem dX6_readCommand_61 : decode cX6_readCommand 61 = .ok (.aload_n 0, 1) := by decide +kernel
theorem dX6_readCommand_62 : decode cX6_readCommand 62 = .ok (.iconst 0, 1) := by decide +kernel
theorem dX6_readCommand_63 : decode cX6_readCommand 63 = .ok (.putfield 32, 3) := by decide +kernel
theorem dX6_readCommand_66 : decode cX6_readCommand 66 = .ok (.aload_n 0, 1) := by decide +kernel
theorem dX6_readCommand_67 : decode cX6_readCommand 67 = .ok (.dup, 1) := by decide +kernel
theorem dX6_readCommand_68 : decode cX6_readCommand 68 = .ok (.getfield 29, 3) := by decide +kernel
theorem dX6_readCommand_71 : decode cX6_readCommand 71 = .ok (.iconst 1, 1) := by decide +kernel
theorem dX6_readCommand_72 : decode cX6_readCommand 72 = .ok (.iadd, 1) := by decide +kernel
theorem dX6_readCommand_73 : decode cX6_readCommand 73 = .ok (.putfield 29, 3) := by decide +kernel
theorem dX6_readCommand_76 : decode cX6_readCommand 76 = .ok (.iconst 0, 1) := by decide +kernel
theorem dX6_readCommand_77 : decode cX6_readCommand 77 = .ok (.istore_n 2, 1) := by decide +kernel
theorem dX6_readCommand_78 : decode cX6_readCommand 78 = .ok (.iload_n 2, 1) := by decide +kernel
theorem dX6_readCommand_79 : decode cX6_readCommand 79 = .ok (.aload_n 1, 1) := by decide +kernel
theorem dX6_readCommand_80 : decode cX6_readCommand 80 = .ok (.invokevirtual 55, 3) := by decide +kernel
theorem dX6_readCommand_83 : decode cX6_readCommand 83 = .ok (.if_icmp .ge 23, 3) := by decide +kernel
theorem dX6_readCommand_86 : decode cX6_readCommand 86 = .ok (.aload_n 0, 1) := by decide +kernel
theorem dX6_readCommand_87 : decode cX6_readCommand 87 = .ok (.aload_n 1, 1) := by decide +kernel
theorem dX6_readCommand_88 : decode cX6_readCommand 88 = .ok (.iload_n 2, 1) := by decide +kernel
theorem dX6_readCommand_89 : decode cX6_readCommand 89 = .ok (.invokevirtual 58, 3) := by decide +kernel
theorem dX6_readCommand_92 : decode cX6_readCommand 92 = .ok (.invokevirtual 62, 3) := by decide +kernel
theorem dX6_readCommand_95 : decode cX6_readCommand 95 = .ok (.ifCond .ne 5, 3) := by decide +kernel
theorem dX6_readCommand_98 : decode cX6_readCommand 98 = .ok (.iconst 0, 1) := by decide +kernel
theorem dX6_readCommand_99 : decode cX6_readCommand 99 = .ok (.ireturn, 1) := by decide +kernel
theorem dX6_readCommand_100 : decode cX6_readCommand 100 = .ok (.iinc 2 1, 3) := by decide +kernel
theorem dX6_readCommand_103 : decode cX6_readCommand 103 = .ok (.goto (-25), 3) := by decide +kernel
theorem dX6_readCommand_106 : decode cX6_readCommand 106 = .ok (.aload_n 0, 1) := by decide +kernel
theorem dX6_readCommand_107 : decode cX6_readCommand 107 = .ok (.dup, 1) := by decide +kernel
theorem dX6_readCommand_108 : decode cX6_readCommand 108 = .ok (.getfield 26, 3) := by decide +kernel
theorem dX6_readCommand_111 : decode cX6_readCommand 111 = .ok (.iconst 1, 1) := by decide +kernel
theorem dX6_readCommand_112 : decode cX6_readCommand 112 = .ok (.iadd, 1) := by decide +kernel
theorem dX6_readCommand_113 : decode cX6_readCommand 113 = .ok (.putfield 26, 3) := by decide +kernel
theorem dX6_readCommand_116 : decode cX6_readCommand 116 = .ok (.iconst 1, 1) := by decide +kernel
theorem dX6_readCommand_117 : decode cX6_readCommand 117 = .ok (.ireturn, 1) := by decide +kernel
theorem dX6_formOf_0 : decode cX6_formOf 0 = .ok (.iload_n 0, 1) := by decide +kernel
theorem dX6_formOf_1 : decode cX6_formOf 1 = .ok (.lookupswitch 55 #[(104, 49), (112, 46), (115, 43), (121, 52)], 43) := by decide +kernel
theorem dX6_formOf_44 : decode cX6_formOf 44 = .ok (.ldc 65, 2) := by decide +kernel
theorem dX6_formOf_46 : decode cX6_formOf 46 = .ok (.areturn, 1) := by decide +kernel
theorem dX6_formOf_47 : decode cX6_formOf 47 = .ok (.ldc 67, 2) := by decide +kernel
theorem dX6_formOf_49 : decode cX6_formOf 49 = .ok (.areturn, 1) := by decide +kernel
theorem dX6_formOf_50 : decode cX6_formOf 50 = .ok (.ldc 69, 2) := by decide +kernel
theorem dX6_formOf_52 : decode cX6_formOf 52 = .ok (.areturn, 1) := by decide +kernel
theorem dX6_formOf_53 : decode cX6_formOf 53 = .ok (.ldc 71, 2) := by decide +kernel
theorem dX6_formOf_55 : decode cX6_formOf 55 = .ok (.areturn, 1) := by decide +kernel
theorem dX6_formOf_56 : decode cX6_formOf 56 = .ok (.ldc 73, 2) := by decide +kernel
theorem dX6_formOf_58 : decode cX6_formOf 58 = .ok (.areturn, 1) := by decide +kernel
theorem dX6_readPart_0 : decode cX6_readPart 0 = .ok (.iload_n 1, 1) := by decide +kernel
theorem dX6_readPart_1 : decode cX6_readPart 1 = .ok (.lookupswitch 39 #[(100, 27), (110, 33)], 27) := by decide +kernel
theorem dX6_readPart_28 : decode cX6_readPart 28 = .ok (.aload_n 0, 1) := by decide +kernel
theorem dX6_readPart_29 : decode cX6_readPart 29 = .ok (.iconst 1, 1) := by decide +kernel
theorem dX6_readPart_30 : decode cX6_readPart 30 = .ok (.invokevirtual 75, 3) := by decide +kernel
theorem dX6_readPart_33 : decode cX6_readPart 33 = .ok (.ireturn, 1) := by decide +kernel
theorem dX6_readPart_34 : decode cX6_readPart 34 = .ok (.aload_n 0, 1) := by decide +kernel
theorem dX6_readPart_35 : decode cX6_readPart 35 = .ok (.iconst 2, 1) := by decide +kernel
theorem dX6_readPart_36 : decode cX6_readPart 36 = .ok (.invokevirtual 75, 3) := by decide +kernel
theorem dX6_readPart_39 : decode cX6_readPart 39 = .ok (.ireturn, 1) := by decide +kernel
theorem dX6_readPart_40 : decode cX6_readPart 40 = .ok (.aload_n 0, 1) := by decide +kernel
theorem dX6_readPart_41 : decode cX6_readPart 41 = .ok (.iload_n 1, 1) := by decide +kernel
theorem dX6_readPart_42 : decode cX6_readPart 42 = .ok (.invokevirtual 39, 3) := by decide +kernel
theorem dX6_readPart_45 : decode cX6_readPart 45 = .ok (.ireturn, 1) := by decide +kernel
theorem dX6_readSign_0 : decode cX6_readSign 0 = .ok (.aload_n 0, 1) := by decide +kernel
theorem dX6_readSign_1 : decode cX6_readSign 1 = .ok (.getfield 29, 3) := by decide +kernel
theorem dX6_readSign_4 : decode cX6_readSign 4 = .ok (.aload_n 0, 1) := by decide +kernel
theorem dX6_readSign_5 : decode cX6_readSign 5 = .ok (.getfield 15, 3) := by decide +kernel
theorem dX6_readSign_8 : decode cX6_readSign 8 = .ok (.if_icmp .ge 16, 3) := by decide +kernel
theorem dX6_readSign_11 : decode cX6_readSign 11 = .ok (.aload_n 0, 1) := by decide +kernel
theorem dX6_readSign_12 : decode cX6_readSign 12 = .ok (.getfield 9, 3) := by decide +kernel
theorem dX6_readSign_15 : decode cX6_readSign 15 = .ok (.aload_n 0, 1) := by decide +kernel
theorem dX6_readSign_16 : decode cX6_readSign 16 = .ok (.getfield 29, 3) := by decide +kernel
theorem dX6_readSign_19 : decode cX6_readSign 19 = .ok (.caload, 1) := by decide +kernel
theorem dX6_readSign_20 : decode cX6_readSign 20 = .ok (.iload_n 1, 1) := by decide +kernel
theorem dX6_readSign_21 : decode cX6_readSign 21 = .ok (.if_icmp .eq 5, 3) := by decide +kernel
theorem dX6_readSign_24 : decode cX6_readSign 24 = .ok (.iconst 0, 1) := by decide +kernel
theorem dX6_readSign_25 : decode cX6_readSign 25 = .ok (.ireturn, 1) := by decide +kernel
theorem dX6_readSign_26 : decode cX6_readSign 26 = .ok (.aload_n 0, 1) := by decide +kernel
theorem dX6_readSign_27 : decode cX6_readSign 27 = .ok (.dup, 1) := by decide +kernel
theorem dX6_readSign_28 : decode cX6_readSign 28 = .ok (.getfield 29, 3) := by decide +kernel
theorem dX6_readSign_31 : decode cX6_readSign 31 = .ok (.iconst 1, 1) := by decide +kernel
theorem dX6_readSign_32 : decode cX6_readSign 32 = .ok (.iadd, 1) := by decide +kernel
theorem dX6_readSign_33 : decode cX6_readSign 33 = .ok (.putfield 29, 3) := by decide +kernel
theorem dX6_readSign_36 : decode cX6_readSign 36 = .ok (.iconst 1, 1) := by decide +kernel
theorem dX6_readSign_37 : decode cX6_readSign 37 = .ok (.ireturn, 1) := by decide +kernel
theorem dX6_readNumber_0 : decode cX6_readNumber 0 = .ok (.iconst 0, 1) := by decide +kernel
theorem dX6_readNumber_1 : decode cX6_readNumber 1 = .ok (.istore_n 2, 1) := by decide +kernel
theorem dX6_readNumber_2 : decode cX6_readNumber 2 = .ok (.iconst 0, 1) := by decide +kernel
theorem dX6_readNumber_3 : decode cX6_readNumber 3 = .ok (.istore_n 3, 1) := by decide +kernel
theorem dX6_readNumber_4 : decode cX6_readNumber 4 = .ok (.iload_n 3, 1) := by decide +kernel
theorem dX6_readNumber_5 : decode cX6_readNumber 5 = .ok (.iload_n 1, 1) := by decide +kernel
theorem dX6_readNumber_6 : decode cX6_readNumber 6 = .ok (.if_icmp .ge 76, 3) := by decide +kernel
theorem dX6_readNumber_9 : decode cX6_readNumber 9 = .ok (.aload_n 0, 1) := by decide +kernel
theorem dX6_readNumber_10 : decode cX6_readNumber 10 = .ok (.getfield 29, 3) := by decide +kernel
theorem dX6_readNumber_13 : decode cX6_readNumber 13 = .ok (.aload_n 0, 1) := by decide +kernel
theorem dX6_readNumber_14 : decode cX6_readNumber 14 = .ok (.getfield 15, 3) := by decide +kernel
theorem dX6_readNumber_17 : decode cX6_readNumber 17 = .ok (.if_icmp .ge 65, 3) := by decide +kernel
theorem dX6_readNumber_20 : decode cX6_readNumber 20 = .ok (.aload_n 0, 1) := by decide +kernel
theorem dX6_readNumber_21 : decode cX6_readNumber 21 = .ok (.getfield 9, 3) := by decide +kernel
theorem dX6_readNumber_24 : decode cX6_readNumber 24 = .ok (.aload_n 0, 1) := by decide +kernel
theorem dX6_readNumber_25 : decode cX6_readNumber 25 = .ok (.getfield 29, 3) := by decide +kernel
theorem dX6_readNumber_28 : decode cX6_readNumber 28 = .ok (.caload, 1) := by decide +kernel
theorem dX6_readNumber_29 : decode cX6_readNumber 29 = .ok (.bipush 48, 2) := by decide +kernel
theorem dX6_readNumber_31 : decode cX6_readNumber 31 = .ok (.if_icmp .lt 51, 3) := by decide +kernel
theorem dX6_readNumber_34 : decode cX6_readNumber 34 = .ok (.aload_n 0, 1) := by decide +kernel
theorem dX6_readNumber_35 : decode cX6_readNumber 35 = .ok (.getfield 9, 3) := by decide +kernel
theorem dX6_readNumber_38 : decode cX6_readNumber 38 = .ok (.aload_n 0, 1) := by decide +kernel
theorem dX6_readNumber_39 : decode cX6_readNumber 39 = .ok (.getfield 29, 3) := by decide +kernel
theorem dX6_readNumber_42 : decode cX6_readNumber 42 = .ok (.caload, 1) := by decide +kernel
theorem dX6_readNumber_43 : decode cX6_readNumber 43 = .ok (.bipush 57, 2) := by decide +kernel
theorem dX6_readNumber_45 : decode cX6_readNumber 45 = .ok (.if_icmp .gt 37, 3) := by decide +kernel
theorem dX6_readNumber_48 : decode cX6_readNumber 48 = .ok (.bipush 10, 2) := by decide +kernel
theorem dX6_readNumber_50 : decode cX6_readNumber 50 = .ok (.iload_n 2, 1) := by decide +kernel
theorem dX6_readNumber_51 : decode cX6_readNumber 51 = .ok (.imul, 1) := by decide +kernel
theorem dX6_readNumber_52 : decode cX6_readNumber 52 = .ok (.aload_n 0, 1) := by decide +kernel
theorem dX6_readNumber_53 : decode cX6_readNumber 53 = .ok (.getfield 9, 3) := by decide +kernel
theorem dX6_readNumber_56 : decode cX6_readNumber 56 = .ok (.aload_n 0, 1) := by decide +kernel
theorem dX6_readNumber_57 : decode cX6_readNumber 57 = .ok (.getfield 29, 3) := by decide +kernel
theorem dX6_readNumber_60 : decode cX6_readNumber 60 = .ok (.caload, 1) := by decide +kernel
theorem dX6_readNumber_61 : decode cX6_readNumber 61 = .ok (.bipush 48, 2) := by decide +kernel
theorem dX6_readNumber_63 : decode cX6_readNumber 63 = .ok (.isub, 1) := by decide +kernel
theorem dX6_readNumber_64 : decode cX6_readNumber 64 = .ok (.iadd, 1) := by decide +kernel
theorem dX6_readNumber_65 : decode cX6_readNumber 65 = .ok (.istore_n 2, 1) := by decide +kernel
theorem dX6_readNumber_66 : decode cX6_readNumber 66 = .ok (.iinc 3 1, 3) := by decide +kernel
theorem dX6_readNumber_69 : decode cX6_readNumber 69 = .ok (.aload_n 0, 1) := by decide +kernel
theorem dX6_readNumber_70 : decode cX6_readNumber 70 = .ok (.dup, 1) := by decide +kernel
theorem dX6_readNumber_71 : decode cX6_readNumber 71 = .ok (.getfield 29, 3) := by decide +kernel
theorem dX6_readNumber_74 : decode cX6_readNumber 74 = .ok (.iconst 1, 1) := by decide +kernel
theorem dX6_readNumber_75 : decode cX6_readNumber 75 = .ok (.iadd, 1) := by decide +kernel
theorem dX6_readNumber_76 : decode cX6_readNumber 76 = .ok (.putfield 29, 3) := by decide +kernel
theorem dX6_readNumber_79 : decode cX6_readNumber 79 = .ok (.goto (-75), 3) := by decide +kernel
theorem dX6_readNumber_82 : decode cX6_readNumber 82 = .ok (.iload_n 3, 1) := by decide +kernel
theorem dX6_readNumber_83 : decode cX6_readNumber 83 = .ok (.ifCond .ne 5, 3) := by decide +kernel
theorem dX6_readNumber_86 : decode cX6_readNumber 86 = .ok (.iconst 0, 1) := by decide +kernel
theorem dX6_readNumber_87 : decode cX6_readNumber 87 = .ok (.ireturn, 1) := by decide +kernel
theorem dX6_readNumber_88 : decode cX6_readNumber 88 = .ok (.aload_n 0, 1) := by decide +kernel
theorem dX6_readNumber_89 : decode cX6_readNumber 89 = .ok (.getfield 22, 3) := by decide +kernel
theorem dX6_readNumber_92 : decode cX6_readNumber 92 = .ok (.aload_n 0, 1) := by decide +kernel
theorem dX6_readNumber_93 : decode cX6_readNumber 93 = .ok (.getfield 26, 3) := by decide +kernel
theorem dX6_readNumber_96 : decode cX6_readNumber 96 = .ok (.iconst 3, 1) := by decide +kernel
theorem dX6_readNumber_97 : decode cX6_readNumber 97 = .ok (.imul, 1) := by decide +kernel
theorem dX6_readNumber_98 : decode cX6_readNumber 98 = .ok (.aload_n 0, 1) := by decide +kernel
theorem dX6_readNumber_99 : decode cX6_readNumber 99 = .ok (.getfield 32, 3) := by decide +kernel
theorem dX6_readNumber_102 : decode cX6_readNumber 102 = .ok (.iadd, 1) := by decide +kernel
theorem dX6_readNumber_103 : decode cX6_readNumber 103 = .ok (.iload_n 2, 1) := by decide +kernel
theorem dX6_readNumber_104 : decode cX6_readNumber 104 = .ok (.iastore, 1) := by decide +kernel
theorem dX6_readNumber_105 : decode cX6_readNumber 105 = .ok (.aload_n 0, 1) := by decide +kernel
theorem dX6_readNumber_106 : decode cX6_readNumber 106 = .ok (.dup, 1) := by decide +kernel
theorem dX6_readNumber_107 : decode cX6_readNumber 107 = .ok (.getfield 32, 3) := by decide +kernel
theorem dX6_readNumber_110 : decode cX6_readNumber 110 = .ok (.iconst 1, 1) := by decide +kernel
theorem dX6_readNumber_111 : decode cX6_readNumber 111 = .ok (.iadd, 1) := by decide +kernel
theorem dX6_readNumber_112 : decode cX6_readNumber 112 = .ok (.putfield 32, 3) := by decide +kernel
theorem dX6_readNumber_115 : decode cX6_readNumber 115 = .ok (.iconst 1, 1) := by decide +kernel
theorem dX6_readNumber_116 : decode cX6_readNumber 116 = .ok (.ireturn, 1) := by decide +kernel
theorem dX7_init_0 : decode cX7_init 0 = .ok (.aload_n 0, 1) := by decide +kernel
theorem dX7_init_1 : decode cX7_init 1 = .ok (.invokespecial 3, 3) := by decide +kernel
theorem dX7_init_4 : decode cX7_init 4 = .ok (.aload_n 0, 1) := by decide +kernel
theorem dX7_init_5 : decode cX7_init 5 = .ok (.new 9, 3) := by decide +kernel
theorem dX7_init_8 : decode cX7_init 8 = .ok (.dup, 1) := by decide +kernel
theorem dX7_init_9 : decode cX7_init 9 = .ok (.invokespecial 11, 3) := by decide +kernel
theorem dX7_init_12 : decode cX7_init 12 = .ok (.putfield 12, 3) := by decide +kernel
theorem dX7_init_15 : decode cX7_init 15 = .ok (.aload_n 0, 1) := by decide +kernel
theorem dX7_init_16 : decode cX7_init 16 = .ok (.new 18, 3) := by decide +kernel
theorem dX7_init_19 : decode cX7_init 19 = .ok (.dup, 1) := by decide +kernel
theorem dX7_init_20 : decode cX7_init 20 = .ok (.invokespecial 20, 3) := by decide +kernel
theorem dX7_init_23 : decode cX7_init 23 = .ok (.putfield 21, 3) := by decide +kernel
theorem dX7_init_26 : decode cX7_init 26 = .ok (.return_, 1) := by decide +kernel
theorem dX7_letStormBy_0 : decode cX7_letStormBy 0 = .ok (.iload_n 1, 1) := by decide +kernel
theorem dX7_letStormBy_1 : decode cX7_letStormBy 1 = .ok (.iconst 1, 1) := by decide +kernel
theorem dX7_letStormBy_2 : decode cX7_letStormBy 2 = .ok (.bipush 9, 2) := by decide +kernel
theorem dX7_letStormBy_4 : decode cX7_letStormBy 4 = .ok (.invokestatic 25, 3) := by decide +kernel
theorem dX7_letStormBy_7 : decode cX7_letStormBy 7 = .ok (.ifCond .ne 12, 3) := by decide +kernel
theorem dX7_letStormBy_10 : decode cX7_letStormBy 10 = .ok (.iload_n 2, 1) := by decide +kernel
theorem dX7_letStormBy_11 : decode cX7_letStormBy 11 = .ok (.iconst 0, 1) := by decide +kernel
theorem dX7_letStormBy_12 : decode cX7_letStormBy 12 = .ok (.iconst 3, 1) := by decide +kernel
theorem dX7_letStormBy_13 : decode cX7_letStormBy 13 = .ok (.invokestatic 25, 3) := by decide +kernel
theorem dX7_letStormBy_16 : decode cX7_letStormBy 16 = .ok (.ifCond .eq 13, 3) := by decide +kernel
theorem dX7_letStormBy_19 : decode cX7_letStormBy 19 = .ok (.aload_n 0, 1) := by decide +kernel
theorem dX7_letStormBy_20 : decode cX7_letStormBy 20 = .ok (.getfield 21, 3) := by decide +kernel
theorem dX7_letStormBy_23 : decode cX7_letStormBy 23 = .ok (.iconst 1, 1) := by decide +kernel
theorem dX7_letStormBy_24 : decode cX7_letStormBy 24 = .ok (.iconst 0, 1) := by decide +kernel
theorem dX7_letStormBy_25 : decode cX7_letStormBy 25 = .ok (.invokevirtual 29, 3) := by decide +kernel
theorem dX7_letStormBy_28 : decode cX7_letStormBy 28 = .ok (.ireturn, 1) := by decide +kernel
theorem dX7_letStormBy_29 : decode cX7_letStormBy 29 = .ok (.iconst 0, 1) := by decide +kernel
theorem dX7_letStormBy_30 : decode cX7_letStormBy 30 = .ok (.istore_n 3, 1) := by decide +kernel
theorem dX7_letStormBy_31 : decode cX7_letStormBy 31 = .ok (.iconst 0, 1) := by decide +kernel
theorem dX7_letStormBy_32 : decode cX7_letStormBy 32 = .ok (.istore 4, 2) := by decide +kernel
theorem dX7_letStormBy_34 : decode cX7_letStormBy 34 = .ok (.iload 4, 2) := by decide +kernel
theorem dX7_letStormBy_36 : decode cX7_letStormBy 36 = .ok (.iconst 4, 1) := by decide +kernel
theorem dX7_letStormBy_37 : decode cX7_letStormBy 37 = .ok (.if_icmp .ge 52, 3) := by decide +kernel
theorem dX7_letStormBy_40 : decode cX7_letStormBy 40 = .ok (.iload_n 3, 1) := by decide +kernel
theorem dX7_letStormBy_41 : decode cX7_letStormBy 41 = .ok (.aload_n 0, 1) := by decide +kernel
theorem dX7_letStormBy_42 : decode cX7_letStormBy 42 = .ok (.iload 4, 2) := by decide +kernel
theorem dX7_letStormBy_44 : decode cX7_letStormBy 44 = .ok (.iload 4, 2) := by decide +kernel
theorem dX7_letStormBy_46 : decode cX7_letStormBy 46 = .ok (.iload_n 1, 1) := by decide +kernel
theorem dX7_letStormBy_47 : decode cX7_letStormBy 47 = .ok (.invokestatic 33, 3) := by decide +kernel
theorem dX7_letStormBy_50 : decode cX7_letStormBy 50 = .ok (.invokevirtual 36, 3) := by decide +kernel
theorem dX7_letStormBy_53 : decode cX7_letStormBy 53 = .ok (.iadd, 1) := by decide +kernel
theorem dX7_letStormBy_54 : decode cX7_letStormBy 54 = .ok (.istore_n 3, 1) := by decide +kernel
theorem dX7_letStormBy_55 : decode cX7_letStormBy 55 = .ok (.aload_n 0, 1) := by decide +kernel
theorem dX7_letStormBy_56 : decode cX7_letStormBy 56 = .ok (.getfield 12, 3) := by decide +kernel
theorem dX7_letStormBy_59 : decode cX7_letStormBy 59 = .ok (.getfield 39, 3) := by decide +kernel
theorem dX7_letStormBy_62 : decode cX7_letStormBy 62 = .ok (.iload 4, 2) := by decide +kernel
theorem dX7_letStormBy_64 : decode cX7_letStormBy 64 = .ok (.aload_n 0, 1) := by decide +kernel
theorem dX7_letStormBy_65 : decode cX7_letStormBy 65 = .ok (.getfield 12, 3) := by decide +kernel
theorem dX7_letStormBy_68 : decode cX7_letStormBy 68 = .ok (.getfield 39, 3) := by decide +kernel
theorem dX7_letStormBy_71 : decode cX7_letStormBy 71 = .ok (.iload 4, 2) := by decide +kernel
theorem dX7_letStormBy_73 : decode cX7_letStormBy 73 = .ok (.iaload, 1) := by decide +kernel
theorem dX7_letStormBy_74 : decode cX7_letStormBy 74 = .ok (.iload_n 1, 1) := by decide +kernel
theorem dX7_letStormBy_75 : decode cX7_letStormBy 75 = .ok (.iconst 3, 1) := by decide +kernel
theorem dX7_letStormBy_76 : decode cX7_letStormBy 76 = .ok (.idiv, 1) := by decide +kernel
theorem dX7_letStormBy_77 : decode cX7_letStormBy 77 = .ok (.isub, 1) := by decide +kernel
theorem dX7_letStormBy_78 : decode cX7_letStormBy 78 = .ok (.iconst 0, 1) := by decide +kernel
theorem dX7_letStormBy_79 : decode cX7_letStormBy 79 = .ok (.invokestatic 43, 3) := by decide +kernel
theorem dX7_letStormBy_82 : decode cX7_letStormBy 82 = .ok (.iastore, 1) := by decide +kernel
theorem dX7_letStormBy_83 : decode cX7_letStormBy 83 = .ok (.iinc 4 1, 3) := by decide +kernel
theorem dX7_letStormBy_86 : decode cX7_letStormBy 86 = .ok (.goto (-52), 3) := by decide +kernel
theorem dX7_letStormBy_89 : decode cX7_letStormBy 89 = .ok (.aload_n 0, 1) := by decide +kernel
theorem dX7_letStormBy_90 : decode cX7_letStormBy 90 = .ok (.getfield 12, 3) := by decide +kernel
theorem dX7_letStormBy_93 : decode cX7_letStormBy 93 = .ok (.dup, 1) := by decide +kernel
theorem dX7_letStormBy_94 : decode cX7_letStormBy 94 = .ok (.getfield 48, 3) := by decide +kernel
theorem dX7_letStormBy_97 : decode cX7_letStormBy 97 = .ok (.iload_n 3, 1) := by decide +kernel
theorem dX7_letStormBy_98 : decode cX7_letStormBy 98 = .ok (.iadd, 1) := by decide +kernel
theorem dX7_letStormBy_99 : decode cX7_letStormBy 99 = .ok (.putfield 48, 3) := by decide +kernel
theorem dX7_letStormBy_102 : decode cX7_letStormBy 102 = .ok (.aload_n 0, 1) := by decide +kernel
theorem dX7_letStormBy_103 : decode cX7_letStormBy 103 = .ok (.getfield 12, 3) := by decide +kernel
theorem dX7_letStormBy_106 : decode cX7_letStormBy 106 = .ok (.dup, 1) := by decide +kernel
theorem dX7_letStormBy_107 : decode cX7_letStormBy 107 = .ok (.getfield 52, 3) := by decide +kernel
theorem dX7_letStormBy_110 : decode cX7_letStormBy 110 = .ok (.iload_n 1, 1) := by decide +kernel
theorem dX7_letStormBy_111 : decode cX7_letStormBy 111 = .ok (.invokestatic 55, 3) := by decide +kernel
theorem dX7_letStormBy_114 : decode cX7_letStormBy 114 = .ok (.iload_n 3, 1) := by decide +kernel
theorem dX7_letStormBy_115 : decode cX7_letStormBy 115 = .ok (.isub, 1) := by decide +kernel
theorem dX7_letStormBy_116 : decode cX7_letStormBy 116 = .ok (.iadd, 1) := by decide +kernel
theorem dX7_letStormBy_117 : decode cX7_letStormBy 117 = .ok (.putfield 52, 3) := by decide +kernel
theorem dX7_letStormBy_120 : decode cX7_letStormBy 120 = .ok (.aload_n 0, 1) := by decide +kernel
theorem dX7_letStormBy_121 : decode cX7_letStormBy 121 = .ok (.getfield 12, 3) := by decide +kernel
theorem dX7_letStormBy_124 : decode cX7_letStormBy 124 = .ok (.aload_n 0, 1) := by decide +kernel
theorem dX7_letStormBy_125 : decode cX7_letStormBy 125 = .ok (.getfield 12, 3) := by decide +kernel
theorem dX7_letStormBy_128 : decode cX7_letStormBy 128 = .ok (.getfield 59, 3) := by decide +kernel
theorem dX7_letStormBy_131 : decode cX7_letStormBy 131 = .ok (.iconst 2, 1) := by decide +kernel
theorem dX7_letStormBy_132 : decode cX7_letStormBy 132 = .ok (.iload_n 2, 1) := by decide +kernel
theorem dX7_letStormBy_133 : decode cX7_letStormBy 133 = .ok (.imul, 1) := by decide +kernel
theorem dX7_letStormBy_134 : decode cX7_letStormBy 134 = .ok (.iadd, 1) := by decide +kernel
theorem dX7_letStormBy_135 : decode cX7_letStormBy 135 = .ok (.bipush 9, 2) := by decide +kernel
theorem dX7_letStormBy_137 : decode cX7_letStormBy 137 = .ok (.invokestatic 62, 3) := by decide +kernel
theorem dX7_letStormBy_140 : decode cX7_letStormBy 140 = .ok (.putfield 59, 3) := by decide +kernel
theorem dX7_letStormBy_143 : decode cX7_letStormBy 143 = .ok (.aload_n 0, 1) := by decide +kernel
theorem dX7_letStormBy_144 : decode cX7_letStormBy 144 = .ok (.iload_n 1, 1) := by decide +kernel
theorem dX7_letStormBy_145 : decode cX7_letStormBy 145 = .ok (.iload_n 3, 1) := by decide +kernel
theorem dX7_letStormBy_146 : decode cX7_letStormBy 146 = .ok (.invokevirtual 65, 3) := by decide +kernel
theorem dX7_letStormBy_149 : decode cX7_letStormBy 149 = .ok (.iload_n 3, 1) := by decide +kernel
theorem dX7_letStormBy_150 : decode cX7_letStormBy 150 = .ok (.ireturn, 1) := by decide +kernel
theorem dX7_fillUnder_0 : decode cX7_fillUnder 0 = .ok (.iload_n 2, 1) := by decide +kernel
theorem dX7_fillUnder_1 : decode cX7_fillUnder 1 = .ok (.istore_n 3, 1) := by decide +kernel
theorem dX7_fillUnder_2 : decode cX7_fillUnder 2 = .ok (.iconst 0, 1) := by decide +kernel
theorem dX7_fillUnder_3 : decode cX7_fillUnder 3 = .ok (.istore 4, 2) := by decide +kernel
theorem dX7_fillUnder_5 : decode cX7_fillUnder 5 = .ok (.iload 4, 2) := by decide +kernel
theorem dX7_fillUnder_7 : decode cX7_fillUnder 7 = .ok (.aload_n 0, 1) := by decide +kernel
theorem dX7_fillUnder_8 : decode cX7_fillUnder 8 = .ok (.getfield 12, 3) := by decide +kernel
theorem dX7_fillUnder_11 : decode cX7_fillUnder 11 = .ok (.getfield 69, 3) := by decide +kernel
theorem dX7_fillUnder_14 : decode cX7_fillUnder 14 = .ok (.if_icmp .ge 99, 3) := by decide +kernel
theorem dX7_fillUnder_17 : decode cX7_fillUnder 17 = .ok (.aload_n 0, 1) := by decide +kernel
theorem dX7_fillUnder_18 : decode cX7_fillUnder 18 = .ok (.getfield 12, 3) := by decide +kernel
theorem dX7_fillUnder_21 : decode cX7_fillUnder 21 = .ok (.getfield 72, 3) := by decide +kernel
theorem dX7_fillUnder_24 : decode cX7_fillUnder 24 = .ok (.iload 4, 2) := by decide +kernel
theorem dX7_fillUnder_26 : decode cX7_fillUnder 26 = .ok (.aaload, 1) := by decide +kernel
theorem dX7_fillUnder_27 : decode cX7_fillUnder 27 = .ok (.astore 5, 2) := by decide +kernel
theorem dX7_fillUnder_29 : decode cX7_fillUnder 29 = .ok (.iload_n 3, 1) := by decide +kernel
theorem dX7_fillUnder_30 : decode cX7_fillUnder 30 = .ok (.ifCond .le 77, 3) := by decide +kernel
theorem dX7_fillUnder_33 : decode cX7_fillUnder 33 = .ok (.aload 5, 2) := by decide +kernel
theorem dX7_fillUnder_35 : decode cX7_fillUnder 35 = .ok (.getfield 76, 3) := by decide +kernel
theorem dX7_fillUnder_38 : decode cX7_fillUnder 38 = .ok (.iload_n 1, 1) := by decide +kernel
theorem dX7_fillUnder_39 : decode cX7_fillUnder 39 = .ok (.if_icmp .ne 68, 3) := by decide +kernel
theorem dX7_fillUnder_42 : decode cX7_fillUnder 42 = .ok (.aload 5, 2) := by decide +kernel
theorem dX7_fillUnder_44 : decode cX7_fillUnder 44 = .ok (.invokevirtual 81, 3) := by decide +kernel
theorem dX7_fillUnder_47 : decode cX7_fillUnder 47 = .ok (.ifCond .eq 60, 3) := by decide +kernel
theorem dX7_fillUnder_50 : decode cX7_fillUnder 50 = .ok (.aload 5, 2) := by decide +kernel
theorem dX7_fillUnder_52 : decode cX7_fillUnder 52 = .ok (.iload_n 3, 1) := by decide +kernel
theorem dX7_fillUnder_53 : decode cX7_fillUnder 53 = .ok (.bipush 20, 2) := by decide +kernel
theorem dX7_fillUnder_55 : decode cX7_fillUnder 55 = .ok (.invokestatic 62, 3) := by decide +kernel
theorem dX7_fillUnder_58 : decode cX7_fillUnder 58 = .ok (.putfield 85, 3) := by decide +kernel
theorem dX7_fillUnder_61 : decode cX7_fillUnder 61 = .ok (.aload 5, 2) := by decide +kernel
theorem dX7_fillUnder_63 : decode cX7_fillUnder 63 = .ok (.aload_n 0, 1) := by decide +kernel
theorem dX7_fillUnder_64 : decode cX7_fillUnder 64 = .ok (.getfield 12, 3) := by decide +kernel
theorem dX7_fillUnder_67 : decode cX7_fillUnder 67 = .ok (.getfield 88, 3) := by decide +kernel
theorem dX7_fillUnder_70 : decode cX7_fillUnder 70 = .ok (.putfield 91, 3) := by decide +kernel
theorem dX7_fillUnder_73 : decode cX7_fillUnder 73 = .ok (.aload 5, 2) := by decide +kernel
theorem dX7_fillUnder_75 : decode cX7_fillUnder 75 = .ok (.aload_n 0, 1) := by decide +kernel
theorem dX7_fillUnder_76 : decode cX7_fillUnder 76 = .ok (.getfield 12, 3) := by decide +kernel
theorem dX7_fillUnder_79 : decode cX7_fillUnder 79 = .ok (.getfield 94, 3) := by decide +kernel
theorem dX7_fillUnder_82 : decode cX7_fillUnder 82 = .ok (.putfield 97, 3) := by decide +kernel
theorem dX7_fillUnder_85 : decode cX7_fillUnder 85 = .ok (.aload 5, 2) := by decide +kernel
theorem dX7_fillUnder_87 : decode cX7_fillUnder 87 = .ok (.aload_n 0, 1) := by decide +kernel
theorem dX7_fillUnder_88 : decode cX7_fillUnder 88 = .ok (.getfield 12, 3) := by decide +kernel
theorem dX7_fillUnder_91 : decode cX7_fillUnder 91 = .ok (.getfield 39, 3) := by decide +kernel
theorem dX7_fillUnder_94 : decode cX7_fillUnder 94 = .ok (.iload_n 1, 1) := by decide +kernel
theorem dX7_fillUnder_95 : decode cX7_fillUnder 95 = .ok (.iaload, 1) := by decide +kernel
theorem dX7_fillUnder_96 : decode cX7_fillUnder 96 = .ok (.putfield 100, 3) := by decide +kernel
theorem dX7_fillUnder_99 : decode cX7_fillUnder 99 = .ok (.iload_n 3, 1) := by decide +kernel
theorem dX7_fillUnder_100 : decode cX7_fillUnder 100 = .ok (.aload 5, 2) := by decide +kernel
theorem dX7_fillUnder_102 : decode cX7_fillUnder 102 = .ok (.getfield 85, 3) := by decide +kernel
theorem dX7_fillUnder_105 : decode cX7_fillUnder 105 = .ok (.isub, 1) := by decide +kernel
theorem dX7_fillUnder_106 : decode cX7_fillUnder 106 = .ok (.istore_n 3, 1) := by decide +kernel
theorem dX7_fillUnder_107 : decode cX7_fillUnder 107 = .ok (.iinc 4 1, 3) := by decide +kernel
theorem dX7_fillUnder_110 : decode cX7_fillUnder 110 = .ok (.goto (-105), 3) := by decide +kernel
theorem dX7_fillUnder_113 : decode cX7_fillUnder 113 = .ok (.iload_n 2, 1) := by decide +kernel
theorem dX7_fillUnder_114 : decode cX7_fillUnder 114 = .ok (.iload_n 3, 1) := by decide +kernel
theorem dX7_fillUnder_115 : decode cX7_fillUnder 115 = .ok (.isub, 1) := by decide +kernel
theorem dX7_fillUnder_116 : decode cX7_fillUnder 116 = .ok (.ireturn, 1) := by decide +kernel
theorem dX7_tell_0 : decode cX7_tell 0 = .ok (.aload_n 0, 1) := by decide +kernel
theorem dX7_tell_1 : decode cX7_tell 1 = .ok (.getfield 12, 3) := by decide +kernel
theorem dX7_tell_4 : decode cX7_tell 4 = .ok (.aload_n 0, 1) := by decide +kernel
theorem dX7_tell_5 : decode cX7_tell 5 = .ok (.getfield 12, 3) := by decide +kernel
theorem dX7_tell_8 : decode cX7_tell 8 = .ok (.getfield 88, 3) := by decide +kernel
theorem dX7_tell_11 : decode cX7_tell 11 = .ok (.invokevirtual 102, 3) := by decide +kernel
theorem dX7_tell_14 : decode cX7_tell 14 = .ok (.astore_n 3, 1) := by decide +kernel
theorem dX7_tell_15 : decode cX7_tell 15 = .ok (.aload_n 3, 1) := by decide +kernel
theorem dX7_tell_16 : decode cX7_tell 16 = .ok (.iload_n 1, 1) := by decide +kernel
theorem dX7_tell_17 : decode cX7_tell 17 = .ok (.putfield 106, 3) := by decide +kernel
theorem dX7_tell_20 : decode cX7_tell 20 = .ok (.aload_n 3, 1) := by decide +kernel
theorem dX7_tell_21 : decode cX7_tell 21 = .ok (.aload_n 0, 1) := by decide +kernel
theorem dX7_tell_22 : decode cX7_tell 22 = .ok (.getfield 12, 3) := by decide +kernel
theorem dX7_tell_25 : decode cX7_tell 25 = .ok (.getfield 94, 3) := by decide +kernel
theorem dX7_tell_28 : decode cX7_tell 28 = .ok (.putfield 111, 3) := by decide +kernel
theorem dX7_tell_31 : decode cX7_tell 31 = .ok (.aload_n 3, 1) := by decide +kernel
theorem dX7_tell_32 : decode cX7_tell 32 = .ok (.iload_n 2, 1) := by decide +kernel
theorem dX7_tell_33 : decode cX7_tell 33 = .ok (.putfield 112, 3) := by decide +kernel
theorem dX7_tell_36 : decode cX7_tell 36 = .ok (.aload_n 0, 1) := by decide +kernel
theorem dX7_tell_37 : decode cX7_tell 37 = .ok (.getfield 12, 3) := by decide +kernel
theorem dX7_tell_40 : decode cX7_tell 40 = .ok (.dup, 1) := by decide +kernel
theorem dX7_tell_41 : decode cX7_tell 41 = .ok (.getfield 88, 3) := by decide +kernel
theorem dX7_tell_44 : decode cX7_tell 44 = .ok (.iconst 1, 1) := by decide +kernel
theorem dX7_tell_45 : decode cX7_tell 45 = .ok (.iadd, 1) := by decide +kernel
theorem dX7_tell_46 : decode cX7_tell 46 = .ok (.putfield 88, 3) := by decide +kernel
theorem dX7_tell_49 : decode cX7_tell 49 = .ok (.return_, 1) := by decide +kernel
theorem dX7_placeBarrel_0 : decode cX7_placeBarrel 0 = .ok (.iload_n 1, 1) := by decide +kernel
theorem dX7_placeBarrel_1 : decode cX7_placeBarrel 1 = .ok (.iconst 0, 1) := by decide +kernel
theorem dX7_placeBarrel_2 : decode cX7_placeBarrel 2 = .ok (.iconst 3, 1) := by decide +kernel
theorem dX7_placeBarrel_3 : decode cX7_placeBarrel 3 = .ok (.invokestatic 25, 3) := by decide +kernel
theorem dX7_placeBarrel_6 : decode cX7_placeBarrel 6 = .ok (.ifCond .eq 13, 3) := by decide +kernel
theorem dX7_placeBarrel_9 : decode cX7_placeBarrel 9 = .ok (.aload_n 0, 1) := by decide +kernel
theorem dX7_placeBarrel_10 : decode cX7_placeBarrel 10 = .ok (.getfield 21, 3) := by decide +kernel
theorem dX7_placeBarrel_13 : decode cX7_placeBarrel 13 = .ok (.iconst 1, 1) := by decide +kernel
theorem dX7_placeBarrel_14 : decode cX7_placeBarrel 14 = .ok (.iconst 0, 1) := by decide +kernel
theorem dX7_placeBarrel_15 : decode cX7_placeBarrel 15 = .ok (.invokevirtual 29, 3) := by decide +kernel
theorem dX7_placeBarrel_18 : decode cX7_placeBarrel 18 = .ok (.ireturn, 1) := by decide +kernel
theorem dX7_placeBarrel_19 : decode cX7_placeBarrel 19 = .ok (.aload_n 0, 1) := by decide +kernel
theorem dX7_placeBarrel_20 : decode cX7_placeBarrel 20 = .ok (.getfield 12, 3) := by decide +kernel
theorem dX7_placeBarrel_23 : decode cX7_placeBarrel 23 = .ok (.getfield 69, 3) := by decide +kernel
theorem dX7_placeBarrel_26 : decode cX7_placeBarrel 26 = .ok (.bipush 8, 2) := by decide +kernel
theorem dX7_placeBarrel_28 : decode cX7_placeBarrel 28 = .ok (.if_icmp .lt 14, 3) := by decide +kernel
theorem dX7_placeBarrel_31 : decode cX7_placeBarrel 31 = .ok (.aload_n 0, 1) := by decide +kernel
theorem dX7_placeBarrel_32 : decode cX7_placeBarrel 32 = .ok (.getfield 21, 3) := by decide +kernel
theorem dX7_placeBarrel_35 : decode cX7_placeBarrel 35 = .ok (.iconst 2, 1) := by decide +kernel
theorem dX7_placeBarrel_36 : decode cX7_placeBarrel 36 = .ok (.bipush 8, 2) := by decide +kernel
theorem dX7_placeBarrel_38 : decode cX7_placeBarrel 38 = .ok (.invokevirtual 29, 3) := by decide +kernel
theorem dX7_placeBarrel_41 : decode cX7_placeBarrel 41 = .ok (.ireturn, 1) := by decide +kernel
theorem dX7_placeBarrel_42 : decode cX7_placeBarrel 42 = .ok (.aload_n 0, 1) := by decide +kernel
theorem dX7_placeBarrel_43 : decode cX7_placeBarrel 43 = .ok (.getfield 12, 3) := by decide +kernel
theorem dX7_placeBarrel_46 : decode cX7_placeBarrel 46 = .ok (.iload_n 1, 1) := by decide +kernel
theorem dX7_placeBarrel_47 : decode cX7_placeBarrel 47 = .ok (.invokevirtual 113, 3) := by decide +kernel
theorem dX7_placeBarrel_50 : decode cX7_placeBarrel 50 = .ok (.aload_n 0, 1) := by decide +kernel
theorem dX7_placeBarrel_51 : decode cX7_placeBarrel 51 = .ok (.getfield 12, 3) := by decide +kernel
theorem dX7_placeBarrel_54 : decode cX7_placeBarrel 54 = .ok (.getfield 69, 3) := by decide +kernel
theorem dX7_placeBarrel_57 : decode cX7_placeBarrel 57 = .ok (.iconst 1, 1) := by decide +kernel
theorem dX7_placeBarrel_58 : decode cX7_placeBarrel 58 = .ok (.isub, 1) := by decide +kernel
theorem dX7_placeBarrel_59 : decode cX7_placeBarrel 59 = .ok (.ireturn, 1) := by decide +kernel
theorem dX7_removeBarrel_0 : decode cX7_removeBarrel 0 = .ok (.aload_n 0, 1) := by decide +kernel
theorem dX7_removeBarrel_1 : decode cX7_removeBarrel 1 = .ok (.getfield 12, 3) := by decide +kernel
theorem dX7_removeBarrel_4 : decode cX7_removeBarrel 4 = .ok (.iload_n 1, 1) := by decide +kernel
theorem dX7_removeBarrel_5 : decode cX7_removeBarrel 5 = .ok (.invokevirtual 117, 3) := by decide +kernel
theorem dX7_removeBarrel_8 : decode cX7_removeBarrel 8 = .ok (.ifCond .ne 19, 3) := by decide +kernel
theorem dX7_removeBarrel_11 : decode cX7_removeBarrel 11 = .ok (.aload_n 0, 1) := by decide +kernel
theorem dX7_removeBarrel_12 : decode cX7_removeBarrel 12 = .ok (.getfield 21, 3) := by decide +kernel
theorem dX7_removeBarrel_15 : decode cX7_removeBarrel 15 = .ok (.iconst 3, 1) := by decide +kernel
theorem dX7_removeBarrel_16 : decode cX7_removeBarrel 16 = .ok (.aload_n 0, 1) := by decide +kernel
theorem dX7_removeBarrel_17 : decode cX7_removeBarrel 17 = .ok (.getfield 12, 3) := by decide +kernel
theorem dX7_removeBarrel_20 : decode cX7_removeBarrel 20 = .ok (.getfield 69, 3) := by decide +kernel
theorem dX7_removeBarrel_23 : decode cX7_removeBarrel 23 = .ok (.invokevirtual 29, 3) := by decide +kernel
theorem dX7_removeBarrel_26 : decode cX7_removeBarrel 26 = .ok (.ireturn, 1) := by decide +kernel
theorem dX7_removeBarrel_27 : decode cX7_removeBarrel 27 = .ok (.aload_n 0, 1) := by decide +kernel
theorem dX7_removeBarrel_28 : decode cX7_removeBarrel 28 = .ok (.getfield 12, 3) := by decide +kernel
theorem dX7_removeBarrel_31 : decode cX7_removeBarrel 31 = .ok (.getfield 72, 3) := by decide +kernel
theorem dX7_removeBarrel_34 : decode cX7_removeBarrel 34 = .ok (.iload_n 1, 1) := by decide +kernel
theorem dX7_removeBarrel_35 : decode cX7_removeBarrel 35 = .ok (.aaload, 1) := by decide +kernel
theorem dX7_removeBarrel_36 : decode cX7_removeBarrel 36 = .ok (.invokevirtual 81, 3) := by decide +kernel
theorem dX7_removeBarrel_39 : decode cX7_removeBarrel 39 = .ok (.ifCond .ne 24, 3) := by decide +kernel
theorem dX7_removeBarrel_42 : decode cX7_removeBarrel 42 = .ok (.aload_n 0, 1) := by decide +kernel
theorem dX7_removeBarrel_43 : decode cX7_removeBarrel 43 = .ok (.getfield 21, 3) := by decide +kernel
theorem dX7_removeBarrel_46 : decode cX7_removeBarrel 46 = .ok (.iconst 5, 1) := by decide +kernel
theorem dX7_removeBarrel_47 : decode cX7_removeBarrel 47 = .ok (.aload_n 0, 1) := by decide +kernel
theorem dX7_removeBarrel_48 : decode cX7_removeBarrel 48 = .ok (.getfield 12, 3) := by decide +kernel
theorem dX7_removeBarrel_51 : decode cX7_removeBarrel 51 = .ok (.getfield 72, 3) := by decide +kernel
theorem dX7_removeBarrel_54 : decode cX7_removeBarrel 54 = .ok (.iload_n 1, 1) := by decide +kernel
theorem dX7_removeBarrel_55 : decode cX7_removeBarrel 55 = .ok (.aaload, 1) := by decide +kernel
theorem dX7_removeBarrel_56 : decode cX7_removeBarrel 56 = .ok (.getfield 85, 3) := by decide +kernel
theorem dX7_removeBarrel_59 : decode cX7_removeBarrel 59 = .ok (.invokevirtual 29, 3) := by decide +kernel
theorem dX7_removeBarrel_62 : decode cX7_removeBarrel 62 = .ok (.ireturn, 1) := by decide +kernel
theorem dX7_removeBarrel_63 : decode cX7_removeBarrel 63 = .ok (.aload_n 0, 1) := by decide +kernel
theorem dX7_removeBarrel_64 : decode cX7_removeBarrel 64 = .ok (.getfield 12, 3) := by decide +kernel
theorem dX7_removeBarrel_67 : decode cX7_removeBarrel 67 = .ok (.iload_n 1, 1) := by decide +kernel
theorem dX7_removeBarrel_68 : decode cX7_removeBarrel 68 = .ok (.invokevirtual 121, 3) := by decide +kernel
theorem dX7_removeBarrel_71 : decode cX7_removeBarrel 71 = .ok (.aload_n 0, 1) := by decide +kernel
theorem dX7_removeBarrel_72 : decode cX7_removeBarrel 72 = .ok (.getfield 12, 3) := by decide +kernel
theorem dX7_removeBarrel_75 : decode cX7_removeBarrel 75 = .ok (.getfield 69, 3) := by decide +kernel
theorem dX7_removeBarrel_78 : decode cX7_removeBarrel 78 = .ok (.ireturn, 1) := by decide +kernel
theorem dX7_pourOver_0 : decode cX7_pourOver 0 = .ok (.aload_n 0, 1) := by decide +kernel
theorem dX7_pourOver_1 : decode cX7_pourOver 1 = .ok (.getfield 12, 3) := by decide +kernel
theorem dX7_pourOver_4 : decode cX7_pourOver 4 = .ok (.iload_n 1, 1) := by decide +kernel
theorem dX7_pourOver_5 : decode cX7_pourOver 5 = .ok (.invokevirtual 117, 3) := by decide +kernel
theorem dX7_pourOver_8 : decode cX7_pourOver 8 = .ok (.ifCond .eq 14, 3) := by decide +kernel
theorem dX7_pourOver_11 : decode cX7_pourOver 11 = .ok (.aload_n 0, 1) := by decide +kernel
theorem dX7_pourOver_12 : decode cX7_pourOver 12 = .ok (.getfield 12, 3) := by decide +kernel
theorem dX7_pourOver_15 : decode cX7_pourOver 15 = .ok (.iload_n 2, 1) := by decide +kernel
theorem dX7_pourOver_16 : decode cX7_pourOver 16 = .ok (.invokevirtual 117, 3) := by decide +kernel
theorem dX7_pourOver_19 : decode cX7_pourOver 19 = .ok (.ifCond .ne 19, 3) := by decide +kernel
theorem dX7_pourOver_22 : decode cX7_pourOver 22 = .ok (.aload_n 0, 1) := by decide +kernel
theorem dX7_pourOver_23 : decode cX7_pourOver 23 = .ok (.getfield 21, 3) := by decide +kernel
theorem dX7_pourOver_26 : decode cX7_pourOver 26 = .ok (.iconst 3, 1) := by decide +kernel
theorem dX7_pourOver_27 : decode cX7_pourOver 27 = .ok (.aload_n 0, 1) := by decide +kernel
theorem dX7_pourOver_28 : decode cX7_pourOver 28 = .ok (.getfield 12, 3) := by decide +kernel
theorem dX7_pourOver_31 : decode cX7_pourOver 31 = .ok (.getfield 69, 3) := by decide +kernel
theorem dX7_pourOver_34 : decode cX7_pourOver 34 = .ok (.invokevirtual 29, 3) := by decide +kernel
theorem dX7_pourOver_37 : decode cX7_pourOver 37 = .ok (.ireturn, 1) := by decide +kernel
theorem dX7_pourOver_38 : decode cX7_pourOver 38 = .ok (.iload_n 1, 1) := by decide +kernel
theorem dX7_pourOver_39 : decode cX7_pourOver 39 = .ok (.iload_n 2, 1) := by decide +kernel
theorem dX7_pourOver_40 : decode cX7_pourOver 40 = .ok (.if_icmp .ne 14, 3) := by decide +kernel
theorem dX7_pourOver_43 : decode cX7_pourOver 43 = .ok (.aload_n 0, 1) := by decide +kernel
theorem dX7_pourOver_44 : decode cX7_pourOver 44 = .ok (.getfield 21, 3) := by decide +kernel
theorem dX7_pourOver_47 : decode cX7_pourOver 47 = .ok (.bipush 8, 2) := by decide +kernel
theorem dX7_pourOver_49 : decode cX7_pourOver 49 = .ok (.iload_n 1, 1) := by decide +kernel
theorem dX7_pourOver_50 : decode cX7_pourOver 50 = .ok (.invokevirtual 29, 3) := by decide +kernel
theorem dX7_pourOver_53 : decode cX7_pourOver 53 = .ok (.ireturn, 1) := by decide +kernel
theorem dX7_pourOver_54 : decode cX7_pourOver 54 = .ok (.iload_n 3, 1) := by decide +kernel
theorem dX7_pourOver_55 : decode cX7_pourOver 55 = .ok (.iconst 1, 1) := by decide +kernel
theorem dX7_pourOver_56 : decode cX7_pourOver 56 = .ok (.bipush 20, 2) := by decide +kernel
theorem dX7_pourOver_58 : decode cX7_pourOver 58 = .ok (.invokestatic 25, 3) := by decide +kernel
theorem dX7_pourOver_61 : decode cX7_pourOver 61 = .ok (.ifCond .eq 13, 3) := by decide +kernel
theorem dX7_pourOver_64 : decode cX7_pourOver 64 = .ok (.aload_n 0, 1) := by decide +kernel
theorem dX7_pourOver_65 : decode cX7_pourOver 65 = .ok (.getfield 21, 3) := by decide +kernel
theorem dX7_pourOver_68 : decode cX7_pourOver 68 = .ok (.iconst 1, 1) := by decide +kernel
theorem dX7_pourOver_69 : decode cX7_pourOver 69 = .ok (.iconst 0, 1) := by decide +kernel
theorem dX7_pourOver_70 : decode cX7_pourOver 70 = .ok (.invokevirtual 29, 3) := by decide +kernel
theorem dX7_pourOver_73 : decode cX7_pourOver 73 = .ok (.ireturn, 1) := by decide +kernel
theorem dX7_pourOver_74 : decode cX7_pourOver 74 = .ok (.aload_n 0, 1) := by decide +kernel
theorem dX7_pourOver_75 : decode cX7_pourOver 75 = .ok (.getfield 12, 3) := by decide +kernel
theorem dX7_pourOver_78 : decode cX7_pourOver 78 = .ok (.getfield 72, 3) := by decide +kernel
theorem dX7_pourOver_81 : decode cX7_pourOver 81 = .ok (.iload_n 1, 1) := by decide +kernel
theorem dX7_pourOver_82 : decode cX7_pourOver 82 = .ok (.aaload, 1) := by decide +kernel
theorem dX7_pourOver_83 : decode cX7_pourOver 83 = .ok (.astore 4, 2) := by decide +kernel
theorem dX7_pourOver_85 : decode cX7_pourOver 85 = .ok (.aload_n 0, 1) := by decide +kernel
theorem dX7_pourOver_86 : decode cX7_pourOver 86 = .ok (.getfield 12, 3) := by decide +kernel
theorem dX7_pourOver_89 : decode cX7_pourOver 89 = .ok (.getfield 72, 3) := by decide +kernel
theorem dX7_pourOver_92 : decode cX7_pourOver 92 = .ok (.iload_n 2, 1) := by decide +kernel
theorem dX7_pourOver_93 : decode cX7_pourOver 93 = .ok (.aaload, 1) := by decide +kernel
theorem dX7_pourOver_94 : decode cX7_pourOver 94 = .ok (.astore 5, 2) := by decide +kernel
theorem dX7_pourOver_96 : decode cX7_pourOver 96 = .ok (.aload 4, 2) := by decide +kernel
theorem dX7_pourOver_98 : decode cX7_pourOver 98 = .ok (.getfield 85, 3) := by decide +kernel
theorem dX7_pourOver_101 : decode cX7_pourOver 101 = .ok (.iload_n 3, 1) := by decide +kernel
theorem dX7_pourOver_102 : decode cX7_pourOver 102 = .ok (.if_icmp .ge 18, 3) := by decide +kernel
theorem dX7_pourOver_105 : decode cX7_pourOver 105 = .ok (.aload_n 0, 1) := by decide +kernel
theorem dX7_pourOver_106 : decode cX7_pourOver 106 = .ok (.getfield 21, 3) := by decide +kernel
theorem dX7_pourOver_109 : decode cX7_pourOver 109 = .ok (.bipush 6, 2) := by decide +kernel
theorem dX7_pourOver_111 : decode cX7_pourOver 111 = .ok (.aload 4, 2) := by decide +kernel
theorem dX7_pourOver_113 : decode cX7_pourOver 113 = .ok (.getfield 85, 3) := by decide +kernel
theorem dX7_pourOver_116 : decode cX7_pourOver 116 = .ok (.invokevirtual 29, 3) := by decide +kernel
theorem dX7_pourOver_119 : decode cX7_pourOver 119 = .ok (.ireturn, 1) := by decide +kernel
theorem dX7_pourOver_120 : decode cX7_pourOver 120 = .ok (.aload 5, 2) := by decide +kernel
theorem dX7_pourOver_122 : decode cX7_pourOver 122 = .ok (.aload 4, 2) := by decide +kernel
theorem dX7_pourOver_124 : decode cX7_pourOver 124 = .ok (.getfield 91, 3) := by decide +kernel
theorem dX7_pourOver_127 : decode cX7_pourOver 127 = .ok (.invokevirtual 124, 3) := by decide +kernel
theorem dX7_pourOver_130 : decode cX7_pourOver 130 = .ok (.ifCond .ne 18, 3) := by decide +kernel
theorem dX7_pourOver_133 : decode cX7_pourOver 133 = .ok (.aload_n 0, 1) := by decide +kernel
theorem dX7_pourOver_134 : decode cX7_pourOver 134 = .ok (.getfield 21, 3) := by decide +kernel
theorem dX7_pourOver_137 : decode cX7_pourOver 137 = .ok (.bipush 9, 2) := by decide +kernel
theorem dX7_pourOver_139 : decode cX7_pourOver 139 = .ok (.aload 5, 2) := by decide +kernel
theorem dX7_pourOver_141 : decode cX7_pourOver 141 = .ok (.getfield 91, 3) := by decide +kernel
theorem dX7_pourOver_144 : decode cX7_pourOver 144 = .ok (.invokevirtual 29, 3) := by decide +kernel
theorem dX7_pourOver_147 : decode cX7_pourOver 147 = .ok (.ireturn, 1) := by decide +kernel
theorem dX7_pourOver_148 : decode cX7_pourOver 148 = .ok (.aload 5, 2) := by decide +kernel
theorem dX7_pourOver_150 : decode cX7_pourOver 150 = .ok (.invokevirtual 127, 3) := by decide +kernel
theorem dX7_pourOver_153 : decode cX7_pourOver 153 = .ok (.iload_n 3, 1) := by decide +kernel
theorem dX7_pourOver_154 : decode cX7_pourOver 154 = .ok (.if_icmp .ge 18, 3) := by decide +kernel
theorem dX7_pourOver_157 : decode cX7_pourOver 157 = .ok (.aload_n 0, 1) := by decide +kernel
theorem dX7_pourOver_158 : decode cX7_pourOver 158 = .ok (.getfield 21, 3) := by decide +kernel
theorem dX7_pourOver_161 : decode cX7_pourOver 161 = .ok (.bipush 7, 2) := by decide +kernel
theorem dX7_pourOver_163 : decode cX7_pourOver 163 = .ok (.aload 5, 2) := by decide +kernel
theorem dX7_pourOver_165 : decode cX7_pourOver 165 = .ok (.invokevirtual 127, 3) := by decide +kernel
theorem dX7_pourOver_168 : decode cX7_pourOver 168 = .ok (.invokevirtual 29, 3) := by decide +kernel
theorem dX7_pourOver_171 : decode cX7_pourOver 171 = .ok (.ireturn, 1) := by decide +kernel
theorem dX7_pourOver_172 : decode cX7_pourOver 172 = .ok (.aload 5, 2) := by decide +kernel
theorem dX7_pourOver_174 : decode cX7_pourOver 174 = .ok (.aload 4, 2) := by decide +kernel
theorem dX7_pourOver_176 : decode cX7_pourOver 176 = .ok (.iload_n 3, 1) := by decide +kernel
theorem dX7_pourOver_177 : decode cX7_pourOver 177 = .ok (.invokevirtual 131, 3) := by decide +kernel
theorem dX7_pourOver_180 : decode cX7_pourOver 180 = .ok (.aload 5, 2) := by decide +kernel
theorem dX7_pourOver_182 : decode cX7_pourOver 182 = .ok (.getfield 85, 3) := by decide +kernel
theorem dX7_pourOver_185 : decode cX7_pourOver 185 = .ok (.ireturn, 1) := by decide +kernel
theorem dX7_adulterate_0 : decode cX7_adulterate 0 = .ok (.aload_n 0, 1) := by decide +kernel
theorem dX7_adulterate_1 : decode cX7_adulterate 1 = .ok (.getfield 12, 3) := by decide +kernel
theorem dX7_adulterate_4 : decode cX7_adulterate 4 = .ok (.iload_n 1, 1) := by decide +kernel
theorem dX7_adulterate_5 : decode cX7_adulterate 5 = .ok (.invokevirtual 117, 3) := by decide +kernel
theorem dX7_adulterate_8 : decode cX7_adulterate 8 = .ok (.ifCond .ne 19, 3) := by decide +kernel
theorem dX7_adulterate_11 : decode cX7_adulterate 11 = .ok (.aload_n 0, 1) := by decide +kernel
theorem dX7_adulterate_12 : decode cX7_adulterate 12 = .ok (.getfield 21, 3) := by decide +kernel
theorem dX7_adulterate_15 : decode cX7_adulterate 15 = .ok (.iconst 3, 1) := by decide +kernel
theorem dX7_adulterate_16 : decode cX7_adulterate 16 = .ok (.aload_n 0, 1) := by decide +kernel
theorem dX7_adulterate_17 : decode cX7_adulterate 17 = .ok (.getfield 12, 3) := by decide +kernel
theorem dX7_adulterate_20 : decode cX7_adulterate 20 = .ok (.getfield 69, 3) := by decide +kernel
theorem dX7_adulterate_23 : decode cX7_adulterate 23 = .ok (.invokevirtual 29, 3) := by decide +kernel
theorem dX7_adulterate_26 : decode cX7_adulterate 26 = .ok (.ireturn, 1) := by decide +kernel
theorem dX7_adulterate_27 : decode cX7_adulterate 27 = .ok (.iload_n 2, 1) := by decide +kernel
theorem dX7_adulterate_28 : decode cX7_adulterate 28 = .ok (.iconst 1, 1) := by decide +kernel
theorem dX7_adulterate_29 : decode cX7_adulterate 29 = .ok (.bipush 9, 2) := by decide +kernel
theorem dX7_adulterate_31 : decode cX7_adulterate 31 = .ok (.invokestatic 25, 3) := by decide +kernel
theorem dX7_adulterate_34 : decode cX7_adulterate 34 = .ok (.ifCond .eq 13, 3) := by decide +kernel
theorem dX7_adulterate_37 : decode cX7_adulterate 37 = .ok (.aload_n 0, 1) := by decide +kernel
theorem dX7_adulterate_38 : decode cX7_adulterate 38 = .ok (.getfield 21, 3) := by decide +kernel
theorem dX7_adulterate_41 : decode cX7_adulterate 41 = .ok (.iconst 1, 1) := by decide +kernel
theorem dX7_adulterate_42 : decode cX7_adulterate 42 = .ok (.iconst 0, 1) := by decide +kernel
theorem dX7_adulterate_43 : decode cX7_adulterate 43 = .ok (.invokevirtual 29, 3) := by decide +kernel
theorem dX7_adulterate_46 : decode cX7_adulterate 46 = .ok (.ireturn, 1) := by decide +kernel
theorem dX7_adulterate_47 : decode cX7_adulterate 47 = .ok (.aload_n 0, 1) := by decide +kernel
theorem dX7_adulterate_48 : decode cX7_adulterate 48 = .ok (.getfield 12, 3) := by decide +kernel
theorem dX7_adulterate_51 : decode cX7_adulterate 51 = .ok (.getfield 72, 3) := by decide +kernel
theorem dX7_adulterate_54 : decode cX7_adulterate 54 = .ok (.iload_n 1, 1) := by decide +kernel
theorem dX7_adulterate_55 : decode cX7_adulterate 55 = .ok (.aaload, 1) := by decide +kernel
theorem dX7_adulterate_56 : decode cX7_adulterate 56 = .ok (.astore_n 3, 1) := by decide +kernel
theorem dX7_adulterate_57 : decode cX7_adulterate 57 = .ok (.aload_n 3, 1) := by decide +kernel
theorem dX7_adulterate_58 : decode cX7_adulterate 58 = .ok (.invokevirtual 81, 3) := by decide +kernel
theorem dX7_adulterate_61 : decode cX7_adulterate 61 = .ok (.ifCond .eq 14, 3) := by decide +kernel
theorem dX7_adulterate_64 : decode cX7_adulterate 64 = .ok (.aload_n 0, 1) := by decide +kernel
theorem dX7_adulterate_65 : decode cX7_adulterate 65 = .ok (.getfield 21, 3) := by decide +kernel
theorem dX7_adulterate_68 : decode cX7_adulterate 68 = .ok (.bipush 6, 2) := by decide +kernel
theorem dX7_adulterate_70 : decode cX7_adulterate 70 = .ok (.iconst 0, 1) := by decide +kernel
theorem dX7_adulterate_71 : decode cX7_adulterate 71 = .ok (.invokevirtual 29, 3) := by decide +kernel
theorem dX7_adulterate_74 : decode cX7_adulterate 74 = .ok (.ireturn, 1) := by decide +kernel
theorem dX7_adulterate_75 : decode cX7_adulterate 75 = .ok (.aload_n 0, 1) := by decide +kernel
theorem dX7_adulterate_76 : decode cX7_adulterate 76 = .ok (.getfield 12, 3) := by decide +kernel
theorem dX7_adulterate_79 : decode cX7_adulterate 79 = .ok (.getfield 59, 3) := by decide +kernel
theorem dX7_adulterate_82 : decode cX7_adulterate 82 = .ok (.iload_n 2, 1) := by decide +kernel
theorem dX7_adulterate_83 : decode cX7_adulterate 83 = .ok (.if_icmp .ge 20, 3) := by decide +kernel
theorem dX7_adulterate_86 : decode cX7_adulterate 86 = .ok (.aload_n 0, 1) := by decide +kernel
theorem dX7_adulterate_87 : decode cX7_adulterate 87 = .ok (.getfield 21, 3) := by decide +kernel
theorem dX7_adulterate_90 : decode cX7_adulterate 90 = .ok (.bipush 10, 2) := by decide +kernel
theorem dX7_adulterate_92 : decode cX7_adulterate 92 = .ok (.aload_n 0, 1) := by decide +kernel
theorem dX7_adulterate_93 : decode cX7_adulterate 93 = .ok (.getfield 12, 3) := by decide +kernel
theorem dX7_adulterate_96 : decode cX7_adulterate 96 = .ok (.getfield 59, 3) := by decide +kernel
theorem dX7_adulterate_99 : decode cX7_adulterate 99 = .ok (.invokevirtual 29, 3) := by decide +kernel
theorem dX7_adulterate_102 : decode cX7_adulterate 102 = .ok (.ireturn, 1) := by decide +kernel
theorem dX7_adulterate_103 : decode cX7_adulterate 103 = .ok (.aload_n 3, 1) := by decide +kernel
theorem dX7_adulterate_104 : decode cX7_adulterate 104 = .ok (.invokevirtual 127, 3) := by decide +kernel
theorem dX7_adulterate_107 : decode cX7_adulterate 107 = .ok (.iload_n 2, 1) := by decide +kernel
theorem dX7_adulterate_108 : decode cX7_adulterate 108 = .ok (.if_icmp .ge 17, 3) := by decide +kernel
theorem dX7_adulterate_111 : decode cX7_adulterate 111 = .ok (.aload_n 0, 1) := by decide +kernel
theorem dX7_adulterate_112 : decode cX7_adulterate 112 = .ok (.getfield 21, 3) := by decide +kernel
theorem dX7_adulterate_115 : decode cX7_adulterate 115 = .ok (.bipush 7, 2) := by decide +kernel
theorem dX7_adulterate_117 : decode cX7_adulterate 117 = .ok (.aload_n 3, 1) := by decide +kernel
theorem dX7_adulterate_118 : decode cX7_adulterate 118 = .ok (.invokevirtual 127, 3) := by decide +kernel
theorem dX7_adulterate_121 : decode cX7_adulterate 121 = .ok (.invokevirtual 29, 3) := by decide +kernel
theorem dX7_adulterate_124 : decode cX7_adulterate 124 = .ok (.ireturn, 1) := by decide +kernel
theorem dX7_adulterate_125 : decode cX7_adulterate 125 = .ok (.aload_n 3, 1) := by decide +kernel
theorem dX7_adulterate_126 : decode cX7_adulterate 126 = .ok (.dup, 1) := by decide +kernel
theorem dX7_adulterate_127 : decode cX7_adulterate 127 = .ok (.getfield 85, 3) := by decide +kernel
theorem dX7_adulterate_130 : decode cX7_adulterate 130 = .ok (.iload_n 2, 1) := by decide +kernel
theorem dX7_adulterate_131 : decode cX7_adulterate 131 = .ok (.iadd, 1) := by decide +kernel
theorem dX7_adulterate_132 : decode cX7_adulterate 132 = .ok (.putfield 85, 3) := by decide +kernel
theorem dX7_adulterate_135 : decode cX7_adulterate 135 = .ok (.aload_n 3, 1) := by decide +kernel
theorem dX7_adulterate_136 : decode cX7_adulterate 136 = .ok (.dup, 1) := by decide +kernel
theorem dX7_adulterate_137 : decode cX7_adulterate 137 = .ok (.getfield 135, 3) := by decide +kernel
theorem dX7_adulterate_140 : decode cX7_adulterate 140 = .ok (.iload_n 2, 1) := by decide +kernel
theorem dX7_adulterate_141 : decode cX7_adulterate 141 = .ok (.iadd, 1) := by decide +kernel
theorem dX7_adulterate_142 : decode cX7_adulterate 142 = .ok (.putfield 135, 3) := by decide +kernel
theorem dX7_adulterate_145 : decode cX7_adulterate 145 = .ok (.aload_n 0, 1) := by decide +kernel
theorem dX7_adulterate_146 : decode cX7_adulterate 146 = .ok (.getfield 12, 3) := by decide +kernel
theorem dX7_adulterate_149 : decode cX7_adulterate 149 = .ok (.dup, 1) := by decide +kernel
theorem dX7_adulterate_150 : decode cX7_adulterate 150 = .ok (.getfield 59, 3) := by decide +kernel
theorem dX7_adulterate_153 : decode cX7_adulterate 153 = .ok (.iload_n 2, 1) := by decide +kernel
theorem dX7_adulterate_154 : decode cX7_adulterate 154 = .ok (.isub, 1) := by decide +kernel
theorem dX7_adulterate_155 : decode cX7_adulterate 155 = .ok (.putfield 59, 3) := by decide +kernel
theorem dX7_adulterate_158 : decode cX7_adulterate 158 = .ok (.aload_n 0, 1) := by decide +kernel
theorem dX7_adulterate_159 : decode cX7_adulterate 159 = .ok (.getfield 12, 3) := by decide +kernel
theorem dX7_adulterate_162 : decode cX7_adulterate 162 = .ok (.dup, 1) := by decide +kernel
theorem dX7_adulterate_163 : decode cX7_adulterate 163 = .ok (.getfield 138, 3) := by decide +kernel
theorem dX7_adulterate_166 : decode cX7_adulterate 166 = .ok (.iload_n 2, 1) := by decide +kernel
theorem dX7_adulterate_167 : decode cX7_adulterate 167 = .ok (.iadd, 1) := by decide +kernel
theorem dX7_adulterate_168 : decode cX7_adulterate 168 = .ok (.putfield 138, 3) := by decide +kernel
theorem dX7_adulterate_171 : decode cX7_adulterate 171 = .ok (.aload_n 3, 1) := by decide +kernel
theorem dX7_adulterate_172 : decode cX7_adulterate 172 = .ok (.invokevirtual 141, 3) := by decide +kernel
theorem dX7_adulterate_175 : decode cX7_adulterate 175 = .ok (.ireturn, 1) := by decide +kernel
theorem dX7_letCome_0 : decode cX7_letCome 0 = .ok (.iload_n 1, 1) := by decide +kernel
theorem dX7_letCome_1 : decode cX7_letCome 1 = .ok (.iconst 0, 1) := by decide +kernel
theorem dX7_letCome_2 : decode cX7_letCome 2 = .ok (.bipush 9, 2) := by decide +kernel
theorem dX7_letCome_4 : decode cX7_letCome 4 = .ok (.invokestatic 25, 3) := by decide +kernel
theorem dX7_letCome_7 : decode cX7_letCome 7 = .ok (.ifCond .eq 13, 3) := by decide +kernel
theorem dX7_letCome_10 : decode cX7_letCome 10 = .ok (.aload_n 0, 1) := by decide +kernel
theorem dX7_letCome_11 : decode cX7_letCome 11 = .ok (.getfield 21, 3) := by decide +kernel
theorem dX7_letCome_14 : decode cX7_letCome 14 = .ok (.iconst 1, 1) := by decide +kernel
theorem dX7_letCome_15 : decode cX7_letCome 15 = .ok (.iconst 0, 1) := by decide +kernel
theorem dX7_letCome_16 : decode cX7_letCome 16 = .ok (.invokevirtual 29, 3) := by decide +kernel
theorem dX7_letCome_19 : decode cX7_letCome 19 = .ok (.ireturn, 1) := by decide +kernel
theorem dX7_letCome_20 : decode cX7_letCome 20 = .ok (.aload_n 0, 1) := by decide +kernel
theorem dX7_letCome_21 : decode cX7_letCome 21 = .ok (.getfield 12, 3) := by decide +kernel
theorem dX7_letCome_24 : decode cX7_letCome 24 = .ok (.getfield 144, 3) := by decide +kernel
theorem dX7_letCome_27 : decode cX7_letCome 27 = .ok (.getfield 148, 3) := by decide +kernel
theorem dX7_letCome_30 : decode cX7_letCome 30 = .ok (.iconst 4, 1) := by decide +kernel
theorem dX7_letCome_31 : decode cX7_letCome 31 = .ok (.if_icmp .lt 13, 3) := by decide +kernel
theorem dX7_letCome_34 : decode cX7_letCome 34 = .ok (.aload_n 0, 1) := by decide +kernel
theorem dX7_letCome_35 : decode cX7_letCome 35 = .ok (.getfield 21, 3) := by decide +kernel
theorem dX7_letCome_38 : decode cX7_letCome 38 = .ok (.iconst 2, 1) := by decide +kernel
theorem dX7_letCome_39 : decode cX7_letCome 39 = .ok (.iconst 4, 1) := by decide +kernel
theorem dX7_letCome_40 : decode cX7_letCome 40 = .ok (.invokevirtual 29, 3) := by decide +kernel
theorem dX7_letCome_43 : decode cX7_letCome 43 = .ok (.ireturn, 1) := by decide +kernel
theorem dX7_letCome_44 : decode cX7_letCome 44 = .ok (.aload_n 0, 1) := by decide +kernel
theorem dX7_letCome_45 : decode cX7_letCome 45 = .ok (.getfield 12, 3) := by decide +kernel
theorem dX7_letCome_48 : decode cX7_letCome 48 = .ok (.getfield 144, 3) := by decide +kernel
theorem dX7_letCome_51 : decode cX7_letCome 51 = .ok (.iload_n 1, 1) := by decide +kernel
theorem dX7_letCome_52 : decode cX7_letCome 52 = .ok (.iload_n 2, 1) := by decide +kernel
theorem dX7_letCome_53 : decode cX7_letCome 53 = .ok (.invokevirtual 153, 3) := by decide +kernel
theorem dX7_letCome_56 : decode cX7_letCome 56 = .ok (.aload_n 0, 1) := by decide +kernel
theorem dX7_letCome_57 : decode cX7_letCome 57 = .ok (.getfield 12, 3) := by decide +kernel
theorem dX7_letCome_60 : decode cX7_letCome 60 = .ok (.getfield 144, 3) := by decide +kernel
theorem dX7_letCome_63 : decode cX7_letCome 63 = .ok (.getfield 148, 3) := by decide +kernel
theorem dX7_letCome_66 : decode cX7_letCome 66 = .ok (.iconst 1, 1) := by decide +kernel
theorem dX7_letCome_67 : decode cX7_letCome 67 = .ok (.isub, 1) := by decide +kernel
theorem dX7_letCome_68 : decode cX7_letCome 68 = .ok (.ireturn, 1) := by decide +kernel
theorem dX7_letLeave_0 : decode cX7_letLeave 0 = .ok (.aload_n 0, 1) := by decide +kernel
theorem dX7_letLeave_1 : decode cX7_letLeave 1 = .ok (.getfield 12, 3) := by decide +kernel
theorem dX7_letLeave_4 : decode cX7_letLeave 4 = .ok (.getfield 144, 3) := by decide +kernel
theorem dX7_letLeave_7 : decode cX7_letLeave 7 = .ok (.iload_n 1, 1) := by decide +kernel
theorem dX7_letLeave_8 : decode cX7_letLeave 8 = .ok (.invokevirtual 157, 3) := by decide +kernel
theorem dX7_letLeave_11 : decode cX7_letLeave 11 = .ok (.ifCond .ne 22, 3) := by decide +kernel
theorem dX7_letLeave_14 : decode cX7_letLeave 14 = .ok (.aload_n 0, 1) := by decide +kernel
theorem dX7_letLeave_15 : decode cX7_letLeave 15 = .ok (.getfield 21, 3) := by decide +kernel
theorem dX7_letLeave_18 : decode cX7_letLeave 18 = .ok (.iconst 4, 1) := by decide +kernel
theorem dX7_letLeave_19 : decode cX7_letLeave 19 = .ok (.aload_n 0, 1) := by decide +kernel
theorem dX7_letLeave_20 : decode cX7_letLeave 20 = .ok (.getfield 12, 3) := by decide +kernel
theorem dX7_letLeave_23 : decode cX7_letLeave 23 = .ok (.getfield 144, 3) := by decide +kernel
theorem dX7_letLeave_26 : decode cX7_letLeave 26 = .ok (.getfield 148, 3) := by decide +kernel
theorem dX7_letLeave_29 : decode cX7_letLeave 29 = .ok (.invokevirtual 29, 3) := by decide +kernel
theorem dX7_letLeave_32 : decode cX7_letLeave 32 = .ok (.ireturn, 1) := by decide +kernel
theorem dX7_letLeave_33 : decode cX7_letLeave 33 = .ok (.aload_n 0, 1) := by decide +kernel
theorem dX7_letLeave_34 : decode cX7_letLeave 34 = .ok (.getfield 12, 3) := by decide +kernel
theorem dX7_letLeave_37 : decode cX7_letLeave 37 = .ok (.getfield 144, 3) := by decide +kernel
theorem dX7_letLeave_40 : decode cX7_letLeave 40 = .ok (.iload_n 1, 1) := by decide +kernel
theorem dX7_letLeave_41 : decode cX7_letLeave 41 = .ok (.invokevirtual 160, 3) := by decide +kernel
theorem dX7_letLeave_44 : decode cX7_letLeave 44 = .ok (.aload_n 0, 1) := by decide +kernel
theorem dX7_letLeave_45 : decode cX7_letLeave 45 = .ok (.getfield 12, 3) := by decide +kernel
theorem dX7_letLeave_48 : decode cX7_letLeave 48 = .ok (.getfield 144, 3) := by decide +kernel
theorem dX7_letLeave_51 : decode cX7_letLeave 51 = .ok (.getfield 148, 3) := by decide +kernel
theorem dX7_letLeave_54 : decode cX7_letLeave 54 = .ok (.ireturn, 1) := by decide +kernel
theorem dX7_letPanelDrink_0 : decode cX7_letPanelDrink 0 = .ok (.aload_n 0, 1) := by decide +kernel
theorem dX7_letPanelDrink_1 : decode cX7_letPanelDrink 1 = .ok (.getfield 12, 3) := by decide +kernel
theorem dX7_letPanelDrink_4 : decode cX7_letPanelDrink 4 = .ok (.iload_n 1, 1) := by decide +kernel
theorem dX7_letPanelDrink_5 : decode cX7_letPanelDrink 5 = .ok (.invokevirtual 117, 3) := by decide +kernel
theorem dX7_letPanelDrink_8 : decode cX7_letPanelDrink 8 = .ok (.ifCond .ne 19, 3) := by decide +kernel
theorem dX7_letPanelDrink_11 : decode cX7_letPanelDrink 11 = .ok (.aload_n 0, 1) := by decide +kernel
theorem dX7_letPanelDrink_12 : decode cX7_letPanelDrink 12 = .ok (.getfield 21, 3) := by decide +kernel
theorem dX7_letPanelDrink_15 : decode cX7_letPanelDrink 15 = .ok (.iconst 3, 1) := by decide +kernel
theorem dX7_letPanelDrink_16 : decode cX7_letPanelDrink 16 = .ok (.aload_n 0, 1) := by decide +kernel
theorem dX7_letPanelDrink_17 : decode cX7_letPanelDrink 17 = .ok (.getfield 12, 3) := by decide +kernel
theorem dX7_letPanelDrink_20 : decode cX7_letPanelDrink 20 = .ok (.getfield 69, 3) := by decide +kernel
theorem dX7_letPanelDrink_23 : decode cX7_letPanelDrink 23 = .ok (.invokevirtual 29, 3) := by decide +kernel
theorem dX7_letPanelDrink_26 : decode cX7_letPanelDrink 26 = .ok (.ireturn, 1) := by decide +kernel
theorem dX7_letPanelDrink_27 : decode cX7_letPanelDrink 27 = .ok (.aload_n 0, 1) := by decide +kernel
theorem dX7_letPanelDrink_28 : decode cX7_letPanelDrink 28 = .ok (.getfield 12, 3) := by decide +kernel
theorem dX7_letPanelDrink_31 : decode cX7_letPanelDrink 31 = .ok (.getfield 144, 3) := by decide +kernel
theorem dX7_letPanelDrink_34 : decode cX7_letPanelDrink 34 = .ok (.getfield 148, 3) := by decide +kernel
theorem dX7_letPanelDrink_37 : decode cX7_letPanelDrink 37 = .ok (.istore_n 2, 1) := by decide +kernel
theorem dX7_letPanelDrink_38 : decode cX7_letPanelDrink 38 = .ok (.iload_n 2, 1) := by decide +kernel
theorem dX7_letPanelDrink_39 : decode cX7_letPanelDrink 39 = .ok (.ifCond .ne 14, 3) := by decide +kernel
theorem dX7_letPanelDrink_42 : decode cX7_letPanelDrink 42 = .ok (.aload_n 0, 1) := by decide +kernel
theorem dX7_letPanelDrink_43 : decode cX7_letPanelDrink 43 = .ok (.getfield 21, 3) := by decide +kernel
theorem dX7_letPanelDrink_46 : decode cX7_letPanelDrink 46 = .ok (.bipush 11, 2) := by decide +kernel
theorem dX7_letPanelDrink_48 : decode cX7_letPanelDrink 48 = .ok (.iconst 0, 1) := by decide +kernel
theorem dX7_letPanelDrink_49 : decode cX7_letPanelDrink 49 = .ok (.invokevirtual 29, 3) := by decide +kernel
theorem dX7_letPanelDrink_52 : decode cX7_letPanelDrink 52 = .ok (.ireturn, 1) := by decide +kernel
theorem dX7_letPanelDrink_53 : decode cX7_letPanelDrink 53 = .ok (.aload_n 0, 1) := by decide +kernel
theorem dX7_letPanelDrink_54 : decode cX7_letPanelDrink 54 = .ok (.getfield 12, 3) := by decide +kernel
theorem dX7_letPanelDrink_57 : decode cX7_letPanelDrink 57 = .ok (.getfield 72, 3) := by decide +kernel
theorem dX7_letPanelDrink_60 : decode cX7_letPanelDrink 60 = .ok (.iload_n 1, 1) := by decide +kernel
theorem dX7_letPanelDrink_61 : decode cX7_letPanelDrink 61 = .ok (.aaload, 1) := by decide +kernel
theorem dX7_letPanelDrink_62 : decode cX7_letPanelDrink 62 = .ok (.astore_n 3, 1) := by decide +kernel
theorem dX7_letPanelDrink_63 : decode cX7_letPanelDrink 63 = .ok (.aload_n 3, 1) := by decide +kernel
theorem dX7_letPanelDrink_64 : decode cX7_letPanelDrink 64 = .ok (.getfield 85, 3) := by decide +kernel
theorem dX7_letPanelDrink_67 : decode cX7_letPanelDrink 67 = .ok (.iload_n 2, 1) := by decide +kernel
theorem dX7_letPanelDrink_68 : decode cX7_letPanelDrink 68 = .ok (.if_icmp .ge 17, 3) := by decide +kernel
theorem dX7_letPanelDrink_71 : decode cX7_letPanelDrink 71 = .ok (.aload_n 0, 1) := by decide +kernel
theorem dX7_letPanelDrink_72 : decode cX7_letPanelDrink 72 = .ok (.getfield 21, 3) := by decide +kernel
theorem dX7_letPanelDrink_75 : decode cX7_letPanelDrink 75 = .ok (.bipush 6, 2) := by decide +kernel
theorem dX7_letPanelDrink_77 : decode cX7_letPanelDrink 77 = .ok (.aload_n 3, 1) := by decide +kernel
theorem dX7_letPanelDrink_78 : decode cX7_letPanelDrink 78 = .ok (.getfield 85, 3) := by decide +kernel
theorem dX7_letPanelDrink_81 : decode cX7_letPanelDrink 81 = .ok (.invokevirtual 29, 3) := by decide +kernel
theorem dX7_letPanelDrink_84 : decode cX7_letPanelDrink 84 = .ok (.ireturn, 1) := by decide +kernel
theorem dX7_letPanelDrink_85 : decode cX7_letPanelDrink 85 = .ok (.aload_n 0, 1) := by decide +kernel
theorem dX7_letPanelDrink_86 : decode cX7_letPanelDrink 86 = .ok (.getfield 12, 3) := by decide +kernel
theorem dX7_letPanelDrink_89 : decode cX7_letPanelDrink 89 = .ok (.aload_n 3, 1) := by decide +kernel
theorem dX7_letPanelDrink_90 : decode cX7_letPanelDrink 90 = .ok (.invokevirtual 163, 3) := by decide +kernel
theorem dX7_letPanelDrink_93 : decode cX7_letPanelDrink 93 = .ok (.iload_n 2, 1) := by decide +kernel
theorem dX7_letPanelDrink_94 : decode cX7_letPanelDrink 94 = .ok (.imul, 1) := by decide +kernel
theorem dX7_letPanelDrink_95 : decode cX7_letPanelDrink 95 = .ok (.istore 4, 2) := by decide +kernel
theorem dX7_letPanelDrink_97 : decode cX7_letPanelDrink 97 = .ok (.aload_n 0, 1) := by decide +kernel
theorem dX7_letPanelDrink_98 : decode cX7_letPanelDrink 98 = .ok (.getfield 12, 3) := by decide +kernel
theorem dX7_letPanelDrink_101 : decode cX7_letPanelDrink 101 = .ok (.getfield 144, 3) := by decide +kernel
theorem dX7_letPanelDrink_104 : decode cX7_letPanelDrink 104 = .ok (.aload_n 3, 1) := by decide +kernel
theorem dX7_letPanelDrink_105 : decode cX7_letPanelDrink 105 = .ok (.invokevirtual 141, 3) := by decide +kernel
theorem dX7_letPanelDrink_108 : decode cX7_letPanelDrink 108 = .ok (.invokevirtual 167, 3) := by decide +kernel
theorem dX7_letPanelDrink_111 : decode cX7_letPanelDrink 111 = .ok (.ifCond .eq 7, 3) := by decide +kernel
theorem dX7_letPanelDrink_114 : decode cX7_letPanelDrink 114 = .ok (.iconst 1, 1) := by decide +kernel
theorem dX7_letPanelDrink_115 : decode cX7_letPanelDrink 115 = .ok (.goto 4, 3) := by decide +kernel
theorem dX7_letPanelDrink_118 : decode cX7_letPanelDrink 118 = .ok (.iconst 0, 1) := by decide +kernel
theorem dX7_letPanelDrink_119 : decode cX7_letPanelDrink 119 = .ok (.istore 5, 2) := by decide +kernel
theorem dX7_letPanelDrink_121 : decode cX7_letPanelDrink 121 = .ok (.aload_n 3, 1) := by decide +kernel
theorem dX7_letPanelDrink_122 : decode cX7_letPanelDrink 122 = .ok (.iload_n 2, 1) := by decide +kernel
theorem dX7_letPanelDrink_123 : decode cX7_letPanelDrink 123 = .ok (.invokevirtual 170, 3) := by decide +kernel
theorem dX7_letPanelDrink_126 : decode cX7_letPanelDrink 126 = .ok (.pop, 1) := by decide +kernel
theorem dX7_letPanelDrink_127 : decode cX7_letPanelDrink 127 = .ok (.aload_n 0, 1) := by decide +kernel
theorem dX7_letPanelDrink_128 : decode cX7_letPanelDrink 128 = .ok (.getfield 12, 3) := by decide +kernel
theorem dX7_letPanelDrink_131 : decode cX7_letPanelDrink 131 = .ok (.dup, 1) := by decide +kernel
theorem dX7_letPanelDrink_132 : decode cX7_letPanelDrink 132 = .ok (.getfield 173, 3) := by decide +kernel
theorem dX7_letPanelDrink_135 : decode cX7_letPanelDrink 135 = .ok (.iload_n 2, 1) := by decide +kernel
theorem dX7_letPanelDrink_136 : decode cX7_letPanelDrink 136 = .ok (.iadd, 1) := by decide +kernel
theorem dX7_letPanelDrink_137 : decode cX7_letPanelDrink 137 = .ok (.putfield 173, 3) := by decide +kernel
theorem dX7_letPanelDrink_140 : decode cX7_letPanelDrink 140 = .ok (.iload 5, 2) := by decide +kernel
theorem dX7_letPanelDrink_142 : decode cX7_letPanelDrink 142 = .ok (.ifCond .ne 6, 3) := by decide +kernel
theorem dX7_letPanelDrink_145 : decode cX7_letPanelDrink 145 = .ok (.iload 4, 2) := by decide +kernel
theorem dX7_letPanelDrink_147 : decode cX7_letPanelDrink 147 = .ok (.ireturn, 1) := by decide +kernel
theorem dX7_letPanelDrink_148 : decode cX7_letPanelDrink 148 = .ok (.aload_n 0, 1) := by decide +kernel
theorem dX7_letPanelDrink_149 : decode cX7_letPanelDrink 149 = .ok (.getfield 12, 3) := by decide +kernel
theorem dX7_letPanelDrink_152 : decode cX7_letPanelDrink 152 = .ok (.dup, 1) := by decide +kernel
theorem dX7_letPanelDrink_153 : decode cX7_letPanelDrink 153 = .ok (.getfield 176, 3) := by decide +kernel
theorem dX7_letPanelDrink_156 : decode cX7_letPanelDrink 156 = .ok (.aload_n 3, 1) := by decide +kernel
theorem dX7_letPanelDrink_157 : decode cX7_letPanelDrink 157 = .ok (.getfield 85, 3) := by decide +kernel
theorem dX7_letPanelDrink_160 : decode cX7_letPanelDrink 160 = .ok (.iadd, 1) := by decide +kernel
theorem dX7_letPanelDrink_161 : decode cX7_letPanelDrink 161 = .ok (.putfield 176, 3) := by decide +kernel
theorem dX7_letPanelDrink_164 : decode cX7_letPanelDrink 164 = .ok (.aload_n 0, 1) := by decide +kernel
theorem dX7_letPanelDrink_165 : decode cX7_letPanelDrink 165 = .ok (.getfield 12, 3) := by decide +kernel
theorem dX7_letPanelDrink_168 : decode cX7_letPanelDrink 168 = .ok (.dup, 1) := by decide +kernel
theorem dX7_letPanelDrink_169 : decode cX7_letPanelDrink 169 = .ok (.getfield 179, 3) := by decide +kernel
theorem dX7_letPanelDrink_172 : decode cX7_letPanelDrink 172 = .ok (.iconst 1, 1) := by decide +kernel
theorem dX7_letPanelDrink_173 : decode cX7_letPanelDrink 173 = .ok (.iadd, 1) := by decide +kernel
theorem dX7_letPanelDrink_174 : decode cX7_letPanelDrink 174 = .ok (.putfield 179, 3) := by decide +kernel
theorem dX7_letPanelDrink_177 : decode cX7_letPanelDrink 177 = .ok (.aload_n 3, 1) := by decide +kernel
theorem dX7_letPanelDrink_178 : decode cX7_letPanelDrink 178 = .ok (.invokevirtual 182, 3) := by decide +kernel
theorem dX7_letPanelDrink_181 : decode cX7_letPanelDrink 181 = .ok (.iconst 0, 1) := by decide +kernel
theorem dX7_letPanelDrink_182 : decode cX7_letPanelDrink 182 = .ok (.ireturn, 1) := by decide +kernel
theorem dX7_clearRoof_0 : decode cX7_clearRoof 0 = .ok (.iload_n 1, 1) := by decide +kernel
theorem dX7_clearRoof_1 : decode cX7_clearRoof 1 = .ok (.iconst 0, 1) := by decide +kernel
theorem dX7_clearRoof_2 : decode cX7_clearRoof 2 = .ok (.iconst 3, 1) := by decide +kernel
theorem dX7_clearRoof_3 : decode cX7_clearRoof 3 = .ok (.invokestatic 25, 3) := by decide +kernel
theorem dX7_clearRoof_6 : decode cX7_clearRoof 6 = .ok (.ifCond .eq 13, 3) := by decide +kernel
theorem dX7_clearRoof_9 : decode cX7_clearRoof 9 = .ok (.aload_n 0, 1) := by decide +kernel
theorem dX7_clearRoof_10 : decode cX7_clearRoof 10 = .ok (.getfield 21, 3) := by decide +kernel
theorem dX7_clearRoof_13 : decode cX7_clearRoof 13 = .ok (.iconst 1, 1) := by decide +kernel
theorem dX7_clearRoof_14 : decode cX7_clearRoof 14 = .ok (.iconst 0, 1) := by decide +kernel
theorem dX7_clearRoof_15 : decode cX7_clearRoof 15 = .ok (.invokevirtual 29, 3) := by decide +kernel
theorem dX7_clearRoof_18 : decode cX7_clearRoof 18 = .ok (.ireturn, 1) := by decide +kernel
theorem dX7_clearRoof_19 : decode cX7_clearRoof 19 = .ok (.aload_n 0, 1) := by decide +kernel
theorem dX7_clearRoof_20 : decode cX7_clearRoof 20 = .ok (.getfield 12, 3) := by decide +kernel
theorem dX7_clearRoof_23 : decode cX7_clearRoof 23 = .ok (.getfield 39, 3) := by decide +kernel
theorem dX7_clearRoof_26 : decode cX7_clearRoof 26 = .ok (.iload_n 1, 1) := by decide +kernel
theorem dX7_clearRoof_27 : decode cX7_clearRoof 27 = .ok (.iaload, 1) := by decide +kernel
theorem dX7_clearRoof_28 : decode cX7_clearRoof 28 = .ok (.istore_n 2, 1) := by decide +kernel
theorem dX7_clearRoof_29 : decode cX7_clearRoof 29 = .ok (.iload_n 2, 1) := by decide +kernel
theorem dX7_clearRoof_30 : decode cX7_clearRoof 30 = .ok (.ifCond .ne 14, 3) := by decide +kernel
theorem dX7_clearRoof_33 : decode cX7_clearRoof 33 = .ok (.aload_n 0, 1) := by decide +kernel
theorem dX7_clearRoof_34 : decode cX7_clearRoof 34 = .ok (.getfield 21, 3) := by decide +kernel
theorem dX7_clearRoof_37 : decode cX7_clearRoof 37 = .ok (.bipush 12, 2) := by decide +kernel
theorem dX7_clearRoof_39 : decode cX7_clearRoof 39 = .ok (.iload_n 1, 1) := by decide +kernel
theorem dX7_clearRoof_40 : decode cX7_clearRoof 40 = .ok (.invokevirtual 29, 3) := by decide +kernel
theorem dX7_clearRoof_43 : decode cX7_clearRoof 43 = .ok (.ireturn, 1) := by decide +kernel
theorem dX7_clearRoof_44 : decode cX7_clearRoof 44 = .ok (.aload_n 0, 1) := by decide +kernel
theorem dX7_clearRoof_45 : decode cX7_clearRoof 45 = .ok (.getfield 12, 3) := by decide +kernel
theorem dX7_clearRoof_48 : decode cX7_clearRoof 48 = .ok (.getfield 39, 3) := by decide +kernel
theorem dX7_clearRoof_51 : decode cX7_clearRoof 51 = .ok (.iload_n 1, 1) := by decide +kernel
theorem dX7_clearRoof_52 : decode cX7_clearRoof 52 = .ok (.iconst 0, 1) := by decide +kernel
theorem dX7_clearRoof_53 : decode cX7_clearRoof 53 = .ok (.iastore, 1) := by decide +kernel
theorem dX7_clearRoof_54 : decode cX7_clearRoof 54 = .ok (.iload_n 2, 1) := by decide +kernel
theorem dX7_clearRoof_55 : decode cX7_clearRoof 55 = .ok (.ireturn, 1) := by decide +kernel
theorem dX7_letYearGoBy_0 : decode cX7_letYearGoBy 0 = .ok (.aload_n 0, 1) := by decide +kernel
theorem dX7_letYearGoBy_1 : decode cX7_letYearGoBy 1 = .ok (.getfield 12, 3) := by decide +kernel
theorem dX7_letYearGoBy_4 : decode cX7_letYearGoBy 4 = .ok (.getfield 59, 3) := by decide +kernel
theorem dX7_letYearGoBy_7 : decode cX7_letYearGoBy 7 = .ok (.istore_n 1, 1) := by decide +kernel
theorem dX7_letYearGoBy_8 : decode cX7_letYearGoBy 8 = .ok (.iconst 0, 1) := by decide +kernel
theorem dX7_letYearGoBy_9 : decode cX7_letYearGoBy 9 = .ok (.istore_n 2, 1) := by decide +kernel
theorem dX7_letYearGoBy_10 : decode cX7_letYearGoBy 10 = .ok (.iload_n 2, 1) := by decide +kernel
theorem dX7_letYearGoBy_11 : decode cX7_letYearGoBy 11 = .ok (.iconst 4, 1) := by decide +kernel
theorem dX7_letYearGoBy_12 : decode cX7_letYearGoBy 12 = .ok (.if_icmp .ge 34, 3) := by decide +kernel
theorem dX7_letYearGoBy_15 : decode cX7_letYearGoBy 15 = .ok (.aload_n 0, 1) := by decide +kernel
theorem dX7_letYearGoBy_16 : decode cX7_letYearGoBy 16 = .ok (.getfield 12, 3) := by decide +kernel
theorem dX7_letYearGoBy_19 : decode cX7_letYearGoBy 19 = .ok (.getfield 39, 3) := by decide +kernel
theorem dX7_letYearGoBy_22 : decode cX7_letYearGoBy 22 = .ok (.iload_n 2, 1) := by decide +kernel
theorem dX7_letYearGoBy_23 : decode cX7_letYearGoBy 23 = .ok (.aload_n 0, 1) := by decide +kernel
theorem dX7_letYearGoBy_24 : decode cX7_letYearGoBy 24 = .ok (.getfield 12, 3) := by decide +kernel
theorem dX7_letYearGoBy_27 : decode cX7_letYearGoBy 27 = .ok (.getfield 39, 3) := by decide +kernel
theorem dX7_letYearGoBy_30 : decode cX7_letYearGoBy 30 = .ok (.iload_n 2, 1) := by decide +kernel
theorem dX7_letYearGoBy_31 : decode cX7_letYearGoBy 31 = .ok (.iaload, 1) := by decide +kernel
theorem dX7_letYearGoBy_32 : decode cX7_letYearGoBy 32 = .ok (.iconst 1, 1) := by decide +kernel
theorem dX7_letYearGoBy_33 : decode cX7_letYearGoBy 33 = .ok (.iadd, 1) := by decide +kernel
theorem dX7_letYearGoBy_34 : decode cX7_letYearGoBy 34 = .ok (.bipush 9, 2) := by decide +kernel
theorem dX7_letYearGoBy_36 : decode cX7_letYearGoBy 36 = .ok (.invokestatic 62, 3) := by decide +kernel
theorem dX7_letYearGoBy_39 : decode cX7_letYearGoBy 39 = .ok (.iastore, 1) := by decide +kernel
theorem dX7_letYearGoBy_40 : decode cX7_letYearGoBy 40 = .ok (.iinc 2 1, 3) := by decide +kernel
theorem dX7_letYearGoBy_43 : decode cX7_letYearGoBy 43 = .ok (.goto (-33), 3) := by decide +kernel
theorem dX7_letYearGoBy_46 : decode cX7_letYearGoBy 46 = .ok (.aload_n 0, 1) := by decide +kernel
theorem dX7_letYearGoBy_47 : decode cX7_letYearGoBy 47 = .ok (.getfield 12, 3) := by decide +kernel
theorem dX7_letYearGoBy_50 : decode cX7_letYearGoBy 50 = .ok (.iconst 0, 1) := by decide +kernel
theorem dX7_letYearGoBy_51 : decode cX7_letYearGoBy 51 = .ok (.putfield 59, 3) := by decide +kernel
theorem dX7_letYearGoBy_54 : decode cX7_letYearGoBy 54 = .ok (.aload_n 0, 1) := by decide +kernel
theorem dX7_letYearGoBy_55 : decode cX7_letYearGoBy 55 = .ok (.getfield 12, 3) := by decide +kernel
theorem dX7_letYearGoBy_58 : decode cX7_letYearGoBy 58 = .ok (.dup, 1) := by decide +kernel
theorem dX7_letYearGoBy_59 : decode cX7_letYearGoBy 59 = .ok (.getfield 94, 3) := by decide +kernel
theorem dX7_letYearGoBy_62 : decode cX7_letYearGoBy 62 = .ok (.iconst 1, 1) := by decide +kernel
theorem dX7_letYearGoBy_63 : decode cX7_letYearGoBy 63 = .ok (.iadd, 1) := by decide +kernel
theorem dX7_letYearGoBy_64 : decode cX7_letYearGoBy 64 = .ok (.putfield 94, 3) := by decide +kernel
theorem dX7_letYearGoBy_67 : decode cX7_letYearGoBy 67 = .ok (.iload_n 1, 1) := by decide +kernel
theorem dX7_letYearGoBy_68 : decode cX7_letYearGoBy 68 = .ok (.ireturn, 1) := by decide +kernel
theorem dX8_init_0 : decode cX8_init 0 = .ok (.aload_n 0, 1) := by decide +kernel
theorem dX8_init_1 : decode cX8_init 1 = .ok (.invokespecial 1, 3) := by decide +kernel
theorem dX8_init_4 : decode cX8_init 4 = .ok (.aload_n 0, 1) := by decide +kernel
theorem dX8_init_5 : decode cX8_init 5 = .ok (.new 7, 3) := by decide +kernel
theorem dX8_init_8 : decode cX8_init 8 = .ok (.dup, 1) := by decide +kernel
theorem dX8_init_9 : decode cX8_init 9 = .ok (.invokespecial 9, 3) := by decide +kernel
theorem dX8_init_12 : decode cX8_init 12 = .ok (.putfield 10, 3) := by decide +kernel
theorem dX8_init_15 : decode cX8_init 15 = .ok (.aload_n 0, 1) := by decide +kernel
theorem dX8_init_16 : decode cX8_init 16 = .ok (.aload_n 0, 1) := by decide +kernel
theorem dX8_init_17 : decode cX8_init 17 = .ok (.getfield 10, 3) := by decide +kernel
theorem dX8_init_20 : decode cX8_init 20 = .ok (.getfield 16, 3) := by decide +kernel
theorem dX8_init_23 : decode cX8_init 23 = .ok (.putfield 20, 3) := by decide +kernel
theorem dX8_init_26 : decode cX8_init 26 = .ok (.aload_n 0, 1) := by decide +kernel
theorem dX8_init_27 : decode cX8_init 27 = .ok (.aload_n 0, 1) := by decide +kernel
theorem dX8_init_28 : decode cX8_init 28 = .ok (.getfield 10, 3) := by decide +kernel
theorem dX8_init_31 : decode cX8_init 31 = .ok (.getfield 23, 3) := by decide +kernel
theorem dX8_init_34 : decode cX8_init 34 = .ok (.putfield 27, 3) := by decide +kernel
theorem dX8_init_37 : decode cX8_init 37 = .ok (.aload_n 0, 1) := by decide +kernel
theorem dX8_init_38 : decode cX8_init 38 = .ok (.new 28, 3) := by decide +kernel
theorem dX8_init_41 : decode cX8_init 41 = .ok (.dup, 1) := by decide +kernel
theorem dX8_init_42 : decode cX8_init 42 = .ok (.invokespecial 30, 3) := by decide +kernel
theorem dX8_init_45 : decode cX8_init 45 = .ok (.putfield 31, 3) := by decide +kernel
theorem dX8_init_48 : decode cX8_init 48 = .ok (.aload_n 0, 1) := by decide +kernel
theorem dX8_init_49 : decode cX8_init 49 = .ok (.iconst 0, 1) := by decide +kernel
theorem dX8_init_50 : decode cX8_init 50 = .ok (.putfield 34, 3) := by decide +kernel
theorem dX8_init_53 : decode cX8_init 53 = .ok (.aload_n 0, 1) := by decide +kernel
theorem dX8_init_54 : decode cX8_init 54 = .ok (.new 38, 3) := by decide +kernel
theorem dX8_init_57 : decode cX8_init 57 = .ok (.dup, 1) := by decide +kernel
theorem dX8_init_58 : decode cX8_init 58 = .ok (.invokespecial 40, 3) := by decide +kernel
theorem dX8_init_61 : decode cX8_init 61 = .ok (.putfield 41, 3) := by decide +kernel
theorem dX8_init_64 : decode cX8_init 64 = .ok (.aload_n 0, 1) := by decide +kernel
theorem dX8_init_65 : decode cX8_init 65 = .ok (.new 45, 3) := by decide +kernel
theorem dX8_init_68 : decode cX8_init 68 = .ok (.dup, 1) := by decide +kernel
theorem dX8_init_69 : decode cX8_init 69 = .ok (.invokespecial 47, 3) := by decide +kernel
theorem dX8_init_72 : decode cX8_init 72 = .ok (.putfield 48, 3) := by decide +kernel
theorem dX8_init_75 : decode cX8_init 75 = .ok (.aload_n 0, 1) := by decide +kernel
theorem dX8_init_76 : decode cX8_init 76 = .ok (.iconst (-1), 1) := by decide +kernel
theorem dX8_init_77 : decode cX8_init 77 = .ok (.putfield 52, 3) := by decide +kernel
theorem dX8_init_80 : decode cX8_init 80 = .ok (.aload_n 0, 1) := by decide +kernel
theorem dX8_init_81 : decode cX8_init 81 = .ok (.new 56, 3) := by decide +kernel
theorem dX8_init_84 : decode cX8_init 84 = .ok (.dup, 1) := by decide +kernel
theorem dX8_init_85 : decode cX8_init 85 = .ok (.invokespecial 58, 3) := by decide +kernel
theorem dX8_init_88 : decode cX8_init 88 = .ok (.putfield 59, 3) := by decide +kernel
theorem dX8_init_91 : decode cX8_init 91 = .ok (.return_, 1) := by decide +kernel
theorem dX8_storm_0 : decode cX8_storm 0 = .ok (.aload_n 0, 1) := by decide +kernel
theorem dX8_storm_1 : decode cX8_storm 1 = .ok (.getfield 41, 3) := by decide +kernel
theorem dX8_storm_4 : decode cX8_storm 4 = .ok (.aload_n 0, 1) := by decide +kernel
theorem dX8_storm_5 : decode cX8_storm 5 = .ok (.getfield 20, 3) := by decide +kernel
theorem dX8_storm_8 : decode cX8_storm 8 = .ok (.invokevirtual 63, 3) := by decide +kernel
theorem dX8_storm_11 : decode cX8_storm 11 = .ok (.aload_n 0, 1) := by decide +kernel
theorem dX8_storm_12 : decode cX8_storm 12 = .ok (.aload_n 0, 1) := by decide +kernel
theorem dX8_storm_13 : decode cX8_storm 13 = .ok (.getfield 10, 3) := by decide +kernel
theorem dX8_storm_16 : decode cX8_storm 16 = .ok (.iload_n 1, 1) := by decide +kernel
theorem dX8_storm_17 : decode cX8_storm 17 = .ok (.iload_n 2, 1) := by decide +kernel
theorem dX8_storm_18 : decode cX8_storm 18 = .ok (.invokevirtual 67, 3) := by decide +kernel
theorem dX8_storm_21 : decode cX8_storm 21 = .ok (.invokevirtual 71, 3) := by decide +kernel
theorem dX8_storm_24 : decode cX8_storm 24 = .ok (.ireturn, 1) := by decide +kernel
theorem dX8_barrel_0 : decode cX8_barrel 0 = .ok (.aload_n 0, 1) := by decide +kernel
theorem dX8_barrel_1 : decode cX8_barrel 1 = .ok (.getfield 41, 3) := by decide +kernel
theorem dX8_barrel_4 : decode cX8_barrel 4 = .ok (.aload_n 0, 1) := by decide +kernel
theorem dX8_barrel_5 : decode cX8_barrel 5 = .ok (.getfield 20, 3) := by decide +kernel
theorem dX8_barrel_8 : decode cX8_barrel 8 = .ok (.invokevirtual 63, 3) := by decide +kernel
theorem dX8_barrel_11 : decode cX8_barrel 11 = .ok (.aload_n 0, 1) := by decide +kernel
theorem dX8_barrel_12 : decode cX8_barrel 12 = .ok (.aload_n 0, 1) := by decide +kernel
theorem dX8_barrel_13 : decode cX8_barrel 13 = .ok (.getfield 10, 3) := by decide +kernel
theorem dX8_barrel_16 : decode cX8_barrel 16 = .ok (.iload_n 1, 1) := by decide +kernel
theorem dX8_barrel_17 : decode cX8_barrel 17 = .ok (.invokevirtual 75, 3) := by decide +kernel
theorem dX8_barrel_20 : decode cX8_barrel 20 = .ok (.invokevirtual 71, 3) := by decide +kernel
theorem dX8_barrel_23 : decode cX8_barrel 23 = .ok (.ireturn, 1) := by decide +kernel
theorem dX8_takeAway_0 : decode cX8_takeAway 0 = .ok (.aload_n 0, 1) := by decide +kernel
theorem dX8_takeAway_1 : decode cX8_takeAway 1 = .ok (.getfield 41, 3) := by decide +kernel
theorem dX8_takeAway_4 : decode cX8_takeAway 4 = .ok (.aload_n 0, 1) := by decide +kernel
theorem dX8_takeAway_5 : decode cX8_takeAway 5 = .ok (.getfield 20, 3) := by decide +kernel
theorem dX8_takeAway_8 : decode cX8_takeAway 8 = .ok (.invokevirtual 63, 3) := by decide +kernel
theorem dX8_takeAway_11 : decode cX8_takeAway 11 = .ok (.aload_n 0, 1) := by decide +kernel
theorem dX8_takeAway_12 : decode cX8_takeAway 12 = .ok (.aload_n 0, 1) := by decide +kernel
theorem dX8_takeAway_13 : decode cX8_takeAway 13 = .ok (.getfield 10, 3) := by decide +kernel
theorem dX8_takeAway_16 : decode cX8_takeAway 16 = .ok (.iload_n 1, 1) := by decide +kernel
theorem dX8_takeAway_17 : decode cX8_takeAway 17 = .ok (.invokevirtual 78, 3) := by decide +kernel
theorem dX8_takeAway_20 : decode cX8_takeAway 20 = .ok (.invokevirtual 71, 3) := by decide +kernel
theorem dX8_takeAway_23 : decode cX8_takeAway 23 = .ok (.ireturn, 1) := by decide +kernel
theorem dX8_pour_0 : decode cX8_pour 0 = .ok (.aload_n 0, 1) := by decide +kernel
theorem dX8_pour_1 : decode cX8_pour 1 = .ok (.getfield 41, 3) := by decide +kernel
theorem dX8_pour_4 : decode cX8_pour 4 = .ok (.aload_n 0, 1) := by decide +kernel
theorem dX8_pour_5 : decode cX8_pour 5 = .ok (.getfield 20, 3) := by decide +kernel
theorem dX8_pour_8 : decode cX8_pour 8 = .ok (.invokevirtual 63, 3) := by decide +kernel
theorem dX8_pour_11 : decode cX8_pour 11 = .ok (.aload_n 0, 1) := by decide +kernel
theorem dX8_pour_12 : decode cX8_pour 12 = .ok (.aload_n 0, 1) := by decide +kernel
theorem dX8_pour_13 : decode cX8_pour 13 = .ok (.getfield 10, 3) := by decide +kernel
theorem dX8_pour_16 : decode cX8_pour 16 = .ok (.iload_n 1, 1) := by decide +kernel
theorem dX8_pour_17 : decode cX8_pour 17 = .ok (.iload_n 2, 1) := by decide +kernel
theorem dX8_pour_18 : decode cX8_pour 18 = .ok (.iload_n 3, 1) := by decide +kernel
theorem dX8_pour_19 : decode cX8_pour 19 = .ok (.invokevirtual 81, 3) := by decide +kernel
theorem dX8_pour_22 : decode cX8_pour 22 = .ok (.invokevirtual 71, 3) := by decide +kernel
theorem dX8_pour_25 : decode cX8_pour 25 = .ok (.ireturn, 1) := by decide +kernel
theorem dX8_hail_0 : decode cX8_hail 0 = .ok (.aload_n 0, 1) := by decide +kernel
theorem dX8_hail_1 : decode cX8_hail 1 = .ok (.getfield 41, 3) := by decide +kernel
theorem dX8_hail_4 : decode cX8_hail 4 = .ok (.aload_n 0, 1) := by decide +kernel
theorem dX8_hail_5 : decode cX8_hail 5 = .ok (.getfield 20, 3) := by decide +kernel
theorem dX8_hail_8 : decode cX8_hail 8 = .ok (.invokevirtual 63, 3) := by decide +kernel
theorem dX8_hail_11 : decode cX8_hail 11 = .ok (.aload_n 0, 1) := by decide +kernel
theorem dX8_hail_12 : decode cX8_hail 12 = .ok (.aload_n 0, 1) := by decide +kernel
theorem dX8_hail_13 : decode cX8_hail 13 = .ok (.getfield 10, 3) := by decide +kernel
theorem dX8_hail_16 : decode cX8_hail 16 = .ok (.iload_n 1, 1) := by decide +kernel
theorem dX8_hail_17 : decode cX8_hail 17 = .ok (.iload_n 2, 1) := by decide +kernel
theorem dX8_hail_18 : decode cX8_hail 18 = .ok (.invokevirtual 85, 3) := by decide +kernel
theorem dX8_hail_21 : decode cX8_hail 21 = .ok (.invokevirtual 71, 3) := by decide +kernel
theorem dX8_hail_24 : decode cX8_hail 24 = .ok (.ireturn, 1) := by decide +kernel
theorem dX8_sommelier_0 : decode cX8_sommelier 0 = .ok (.aload_n 0, 1) := by decide +kernel
theorem dX8_sommelier_1 : decode cX8_sommelier 1 = .ok (.getfield 41, 3) := by decide +kernel
theorem dX8_sommelier_4 : decode cX8_sommelier 4 = .ok (.aload_n 0, 1) := by decide +kernel
theorem dX8_sommelier_5 : decode cX8_sommelier 5 = .ok (.getfield 20, 3) := by decide +kernel
theorem dX8_sommelier_8 : decode cX8_sommelier 8 = .ok (.invokevirtual 63, 3) := by decide +kernel
theorem dX8_sommelier_11 : decode cX8_sommelier 11 = .ok (.aload_n 0, 1) := by decide +kernel
theorem dX8_sommelier_12 : decode cX8_sommelier 12 = .ok (.aload_n 0, 1) := by decide +kernel
theorem dX8_sommelier_13 : decode cX8_sommelier 13 = .ok (.getfield 10, 3) := by decide +kernel
theorem dX8_sommelier_16 : decode cX8_sommelier 16 = .ok (.iload_n 1, 1) := by decide +kernel
theorem dX8_sommelier_17 : decode cX8_sommelier 17 = .ok (.iload_n 2, 1) := by decide +kernel
theorem dX8_sommelier_18 : decode cX8_sommelier 18 = .ok (.invokevirtual 88, 3) := by decide +kernel
theorem dX8_sommelier_21 : decode cX8_sommelier 21 = .ok (.invokevirtual 71, 3) := by decide +kernel
theorem dX8_sommelier_24 : decode cX8_sommelier 24 = .ok (.ireturn, 1) := by decide +kernel
theorem dX8_leave_0 : decode cX8_leave 0 = .ok (.aload_n 0, 1) := by decide +kernel
theorem dX8_leave_1 : decode cX8_leave 1 = .ok (.getfield 41, 3) := by decide +kernel
theorem dX8_leave_4 : decode cX8_leave 4 = .ok (.aload_n 0, 1) := by decide +kernel
theorem dX8_leave_5 : decode cX8_leave 5 = .ok (.getfield 20, 3) := by decide +kernel
theorem dX8_leave_8 : decode cX8_leave 8 = .ok (.invokevirtual 63, 3) := by decide +kernel
theorem dX8_leave_11 : decode cX8_leave 11 = .ok (.aload_n 0, 1) := by decide +kernel
theorem dX8_leave_12 : decode cX8_leave 12 = .ok (.aload_n 0, 1) := by decide +kernel
theorem dX8_leave_13 : decode cX8_leave 13 = .ok (.getfield 10, 3) := by decide +kernel
theorem dX8_leave_16 : decode cX8_leave 16 = .ok (.iload_n 1, 1) := by decide +kernel
theorem dX8_leave_17 : decode cX8_leave 17 = .ok (.invokevirtual 92, 3) := by decide +kernel
theorem dX8_leave_20 : decode cX8_leave 20 = .ok (.invokevirtual 71, 3) := by decide +kernel
theorem dX8_leave_23 : decode cX8_leave 23 = .ok (.ireturn, 1) := by decide +kernel
theorem dX8_drink_0 : decode cX8_drink 0 = .ok (.aload_n 0, 1) := by decide +kernel
theorem dX8_drink_1 : decode cX8_drink 1 = .ok (.getfield 41, 3) := by decide +kernel
theorem dX8_drink_4 : decode cX8_drink 4 = .ok (.aload_n 0, 1) := by decide +kernel
theorem dX8_drink_5 : decode cX8_drink 5 = .ok (.getfield 20, 3) := by decide +kernel
theorem dX8_drink_8 : decode cX8_drink 8 = .ok (.invokevirtual 63, 3) := by decide +kernel
theorem dX8_drink_11 : decode cX8_drink 11 = .ok (.aload_n 0, 1) := by decide +kernel
theorem dX8_drink_12 : decode cX8_drink 12 = .ok (.aload_n 0, 1) := by decide +kernel
theorem dX8_drink_13 : decode cX8_drink 13 = .ok (.getfield 10, 3) := by decide +kernel
theorem dX8_drink_16 : decode cX8_drink 16 = .ok (.iload_n 1, 1) := by decide +kernel
theorem dX8_drink_17 : decode cX8_drink 17 = .ok (.invokevirtual 95, 3) := by decide +kernel
theorem dX8_drink_20 : decode cX8_drink 20 = .ok (.invokevirtual 71, 3) := by decide +kernel
theorem dX8_drink_23 : decode cX8_drink 23 = .ok (.ireturn, 1) := by decide +kernel
theorem dX8_clear_0 : decode cX8_clear 0 = .ok (.aload_n 0, 1) := by decide +kernel
theorem dX8_clear_1 : decode cX8_clear 1 = .ok (.getfield 41, 3) := by decide +kernel
theorem dX8_clear_4 : decode cX8_clear 4 = .ok (.aload_n 0, 1) := by decide +kernel
theorem dX8_clear_5 : decode cX8_clear 5 = .ok (.getfield 20, 3) := by decide +kernel
theorem dX8_clear_8 : decode cX8_clear 8 = .ok (.invokevirtual 63, 3) := by decide +kernel
theorem dX8_clear_11 : decode cX8_clear 11 = .ok (.aload_n 0, 1) := by decide +kernel
theorem dX8_clear_12 : decode cX8_clear 12 = .ok (.aload_n 0, 1) := by decide +kernel
theorem dX8_clear_13 : decode cX8_clear 13 = .ok (.getfield 10, 3) := by decide +kernel
theorem dX8_clear_16 : decode cX8_clear 16 = .ok (.iload_n 1, 1) := by decide +kernel
theorem dX8_clear_17 : decode cX8_clear 17 = .ok (.invokevirtual 98, 3) := by decide +kernel
theorem dX8_clear_20 : decode cX8_clear 20 = .ok (.invokevirtual 71, 3) := by decide +kernel
theorem dX8_clear_23 : decode cX8_clear 23 = .ok (.ireturn, 1) := by decide +kernel
theorem dX8_year_0 : decode cX8_year 0 = .ok (.aload_n 0, 1) := by decide +kernel
theorem dX8_year_1 : decode cX8_year 1 = .ok (.getfield 41, 3) := by decide +kernel
theorem dX8_year_4 : decode cX8_year 4 = .ok (.aload_n 0, 1) := by decide +kernel
theorem dX8_year_5 : decode cX8_year 5 = .ok (.getfield 20, 3) := by decide +kernel
theorem dX8_year_8 : decode cX8_year 8 = .ok (.invokevirtual 63, 3) := by decide +kernel
theorem dX8_year_11 : decode cX8_year 11 = .ok (.aload_n 0, 1) := by decide +kernel
theorem dX8_year_12 : decode cX8_year 12 = .ok (.getfield 10, 3) := by decide +kernel
theorem dX8_year_15 : decode cX8_year 15 = .ok (.invokevirtual 101, 3) := by decide +kernel
theorem dX8_year_18 : decode cX8_year 18 = .ok (.istore_n 1, 1) := by decide +kernel
theorem dX8_year_19 : decode cX8_year 19 = .ok (.aload_n 0, 1) := by decide +kernel
theorem dX8_year_20 : decode cX8_year 20 = .ok (.getfield 41, 3) := by decide +kernel
theorem dX8_year_23 : decode cX8_year 23 = .ok (.invokevirtual 105, 3) := by decide +kernel
theorem dX8_year_26 : decode cX8_year 26 = .ok (.iload_n 1, 1) := by decide +kernel
theorem dX8_year_27 : decode cX8_year 27 = .ok (.ireturn, 1) := by decide +kernel
theorem dX8_roofOf_0 : decode cX8_roofOf 0 = .ok (.iload_n 1, 1) := by decide +kernel
theorem dX8_roofOf_1 : decode cX8_roofOf 1 = .ok (.iconst 0, 1) := by decide +kernel
theorem dX8_roofOf_2 : decode cX8_roofOf 2 = .ok (.iconst 3, 1) := by decide +kernel
theorem dX8_roofOf_3 : decode cX8_roofOf 3 = .ok (.invokestatic 108, 3) := by decide +kernel
theorem dX8_roofOf_6 : decode cX8_roofOf 6 = .ok (.ifCond .eq 11, 3) := by decide +kernel
theorem dX8_roofOf_9 : decode cX8_roofOf 9 = .ok (.new 112, 3) := by decide +kernel
theorem dX8_roofOf_12 : decode cX8_roofOf 12 = .ok (.dup, 1) := by decide +kernel
theorem dX8_roofOf_13 : decode cX8_roofOf 13 = .ok (.invokespecial 114, 3) := by decide +kernel
theorem dX8_roofOf_16 : decode cX8_roofOf 16 = .ok (.athrow, 1) := by decide +kernel
theorem dX8_roofOf_17 : decode cX8_roofOf 17 = .ok (.iload_n 2, 1) := by decide +kernel
theorem dX8_roofOf_18 : decode cX8_roofOf 18 = .ok (.tableswitch 67 0 3 #[30, 40, 49, 58], 30) := by decide +kernel
theorem dX8_roofOf_48 : decode cX8_roofOf 48 = .ok (.aload_n 0, 1) := by decide +kernel
theorem dX8_roofOf_49 : decode cX8_roofOf 49 = .ok (.getfield 20, 3) := by decide +kernel
theorem dX8_roofOf_52 : decode cX8_roofOf 52 = .ok (.getfield 115, 3) := by decide +kernel
theorem dX8_roofOf_55 : decode cX8_roofOf 55 = .ok (.iload_n 1, 1) := by decide +kernel
theorem dX8_roofOf_56 : decode cX8_roofOf 56 = .ok (.iaload, 1) := by decide +kernel
theorem dX8_roofOf_57 : decode cX8_roofOf 57 = .ok (.ireturn, 1) := by decide +kernel
theorem dX8_roofOf_58 : decode cX8_roofOf 58 = .ok (.aload_n 0, 1) := by decide +kernel
theorem dX8_roofOf_59 : decode cX8_roofOf 59 = .ok (.getfield 20, 3) := by decide +kernel
theorem dX8_roofOf_62 : decode cX8_roofOf 62 = .ok (.iload_n 1, 1) := by decide +kernel
theorem dX8_roofOf_63 : decode cX8_roofOf 63 = .ok (.invokevirtual 119, 3) := by decide +kernel
theorem dX8_roofOf_66 : decode cX8_roofOf 66 = .ok (.ireturn, 1) := by decide +kernel
theorem dX8_roofOf_67 : decode cX8_roofOf 67 = .ok (.aload_n 0, 1) := by decide +kernel
theorem dX8_roofOf_68 : decode cX8_roofOf 68 = .ok (.getfield 20, 3) := by decide +kernel
theorem dX8_roofOf_71 : decode cX8_roofOf 71 = .ok (.iload_n 1, 1) := by decide +kernel
theorem dX8_roofOf_72 : decode cX8_roofOf 72 = .ok (.invokevirtual 122, 3) := by decide +kernel
theorem dX8_roofOf_75 : decode cX8_roofOf 75 = .ok (.ireturn, 1) := by decide +kernel
theorem dX8_roofOf_76 : decode cX8_roofOf 76 = .ok (.aload_n 0, 1) := by decide +kernel
theorem dX8_roofOf_77 : decode cX8_roofOf 77 = .ok (.getfield 20, 3) := by decide +kernel
theorem dX8_roofOf_80 : decode cX8_roofOf 80 = .ok (.iload_n 1, 1) := by decide +kernel
theorem dX8_roofOf_81 : decode cX8_roofOf 81 = .ok (.invokevirtual 125, 3) := by decide +kernel
theorem dX8_roofOf_84 : decode cX8_roofOf 84 = .ok (.ireturn, 1) := by decide +kernel
theorem dX8_roofOf_85 : decode cX8_roofOf 85 = .ok (.new 128, 3) := by decide +kernel
theorem dX8_roofOf_88 : decode cX8_roofOf 88 = .ok (.dup, 1) := by decide +kernel
theorem dX8_roofOf_89 : decode cX8_roofOf 89 = .ok (.invokespecial 130, 3) := by decide +kernel
theorem dX8_roofOf_92 : decode cX8_roofOf 92 = .ok (.athrow, 1) := by decide +kernel
theorem dX8_barrelOf_0 : decode cX8_barrelOf 0 = .ok (.aload_n 0, 1) := by decide +kernel
theorem dX8_barrelOf_1 : decode cX8_barrelOf 1 = .ok (.iload_n 1, 1) := by decide +kernel
theorem dX8_barrelOf_2 : decode cX8_barrelOf 2 = .ok (.invokevirtual 131, 3) := by decide +kernel
theorem dX8_barrelOf_5 : decode cX8_barrelOf 5 = .ok (.astore_n 3, 1) := by decide +kernel
theorem dX8_barrelOf_6 : decode cX8_barrelOf 6 = .ok (.iload_n 2, 1) := by decide +kernel
theorem dX8_barrelOf_7 : decode cX8_barrelOf 7 = .ok (.tableswitch 83 0 6 #[41, 46, 51, 56, 61, 66, 78], 41) := by decide +kernel
theorem dX8_barrelOf_48 : decode cX8_barrelOf 48 = .ok (.aload_n 3, 1) := by decide +kernel
theorem dX8_barrelOf_49 : decode cX8_barrelOf 49 = .ok (.getfield 135, 3) := by decide +kernel
theorem dX8_barrelOf_52 : decode cX8_barrelOf 52 = .ok (.ireturn, 1) := by decide +kernel
theorem dX8_barrelOf_53 : decode cX8_barrelOf 53 = .ok (.aload_n 3, 1) := by decide +kernel
theorem dX8_barrelOf_54 : decode cX8_barrelOf 54 = .ok (.getfield 140, 3) := by decide +kernel
theorem dX8_barrelOf_57 : decode cX8_barrelOf 57 = .ok (.ireturn, 1) := by decide +kernel
theorem dX8_barrelOf_58 : decode cX8_barrelOf 58 = .ok (.aload_n 3, 1) := by decide +kernel
theorem dX8_barrelOf_59 : decode cX8_barrelOf 59 = .ok (.getfield 143, 3) := by decide +kernel
theorem dX8_barrelOf_62 : decode cX8_barrelOf 62 = .ok (.ireturn, 1) := by decide +kernel
theorem dX8_barrelOf_63 : decode cX8_barrelOf 63 = .ok (.aload_n 3, 1) := by decide +kernel
theorem dX8_barrelOf_64 : decode cX8_barrelOf 64 = .ok (.getfield 146, 3) := by decide +kernel
theorem dX8_barrelOf_67 : decode cX8_barrelOf 67 = .ok (.ireturn, 1) := by decide +kernel
theorem dX8_barrelOf_68 : decode cX8_barrelOf 68 = .ok (.aload_n 3, 1) := by decide +kernel
theorem dX8_barrelOf_69 : decode cX8_barrelOf 69 = .ok (.getfield 149, 3) := by decide +kernel
theorem dX8_barrelOf_72 : decode cX8_barrelOf 72 = .ok (.ireturn, 1) := by decide +kernel
theorem dX8_barrelOf_73 : decode cX8_barrelOf 73 = .ok (.aload_n 3, 1) := by decide +kernel
theorem dX8_barrelOf_74 : decode cX8_barrelOf 74 = .ok (.aload_n 0, 1) := by decide +kernel
theorem dX8_barrelOf_75 : decode cX8_barrelOf 75 = .ok (.getfield 20, 3) := by decide +kernel
theorem dX8_barrelOf_78 : decode cX8_barrelOf 78 = .ok (.getfield 151, 3) := by decide +kernel
theorem dX8_barrelOf_81 : decode cX8_barrelOf 81 = .ok (.invokevirtual 154, 3) := by decide +kernel
theorem dX8_barrelOf_84 : decode cX8_barrelOf 84 = .ok (.ireturn, 1) := by decide +kernel
theorem dX8_barrelOf_85 : decode cX8_barrelOf 85 = .ok (.aload_n 3, 1) := by decide +kernel
theorem dX8_barrelOf_86 : decode cX8_barrelOf 86 = .ok (.invokevirtual 157, 3) := by decide +kernel
theorem dX8_barrelOf_89 : decode cX8_barrelOf 89 = .ok (.ireturn, 1) := by decide +kernel
theorem dX8_barrelOf_90 : decode cX8_barrelOf 90 = .ok (.new 128, 3) := by decide +kernel
theorem dX8_barrelOf_93 : decode cX8_barrelOf 93 = .ok (.dup, 1) := by decide +kernel
theorem dX8_barrelOf_94 : decode cX8_barrelOf 94 = .ok (.invokespecial 130, 3) := by decide +kernel
theorem dX8_barrelOf_97 : decode cX8_barrelOf 97 = .ok (.athrow, 1) := by decide +kernel
theorem dX8_note_0 : decode cX8_note 0 = .ok (.aload_n 0, 1) := by decide +kernel
theorem dX8_note_1 : decode cX8_note 1 = .ok (.getfield 20, 3) := by decide +kernel
theorem dX8_note_4 : decode cX8_note 4 = .ok (.aload_n 0, 1) := by decide +kernel
theorem dX8_note_5 : decode cX8_note 5 = .ok (.iload_n 1, 1) := by decide +kernel
theorem dX8_note_6 : decode cX8_note 6 = .ok (.invokevirtual 160, 3) := by decide +kernel
theorem dX8_note_9 : decode cX8_note 9 = .ok (.invokevirtual 163, 3) := by decide +kernel
theorem dX8_note_12 : decode cX8_note 12 = .ok (.ireturn, 1) := by decide +kernel
theorem dX8_noteAgain_0 : decode cX8_noteAgain 0 = .ok (.aload_n 0, 1) := by decide +kernel
theorem dX8_noteAgain_1 : decode cX8_noteAgain 1 = .ok (.iload_n 1, 1) := by decide +kernel
theorem dX8_noteAgain_2 : decode cX8_noteAgain 2 = .ok (.invokevirtual 160, 3) := by decide +kernel
theorem dX8_noteAgain_5 : decode cX8_noteAgain 5 = .ok (.astore_n 2, 1) := by decide +kernel
theorem dX8_noteAgain_6 : decode cX8_noteAgain 6 = .ok (.aload_n 2, 1) := by decide +kernel
theorem dX8_noteAgain_7 : decode cX8_noteAgain 7 = .ok (.aload_n 2, 1) := by decide +kernel
theorem dX8_noteAgain_8 : decode cX8_noteAgain 8 = .ok (.aload_n 0, 1) := by decide +kernel
theorem dX8_noteAgain_9 : decode cX8_noteAgain 9 = .ok (.getfield 20, 3) := by decide +kernel
theorem dX8_noteAgain_12 : decode cX8_noteAgain 12 = .ok (.getfield 151, 3) := by decide +kernel
theorem dX8_noteAgain_15 : decode cX8_noteAgain 15 = .ok (.invokevirtual 154, 3) := by decide +kernel
theorem dX8_noteAgain_18 : decode cX8_noteAgain 18 = .ok (.invokevirtual 167, 3) := by decide +kernel
theorem dX8_noteAgain_21 : decode cX8_noteAgain 21 = .ok (.ireturn, 1) := by decide +kernel
theorem dX8_noteIn_0 : decode cX8_noteIn 0 = .ok (.aload_n 0, 1) := by decide +kernel
theorem dX8_noteIn_1 : decode cX8_noteIn 1 = .ok (.iload_n 1, 1) := by decide +kernel
theorem dX8_noteIn_2 : decode cX8_noteIn 2 = .ok (.invokevirtual 160, 3) := by decide +kernel
theorem dX8_noteIn_5 : decode cX8_noteIn 5 = .ok (.astore_n 3, 1) := by decide +kernel
theorem dX8_noteIn_6 : decode cX8_noteIn 6 = .ok (.iload_n 2, 1) := by decide +kernel
theorem dX8_noteIn_7 : decode cX8_noteIn 7 = .ok (.iconst 0, 1) := by decide +kernel
theorem dX8_noteIn_8 : decode cX8_noteIn 8 = .ok (.bipush 20, 2) := by decide +kernel
theorem dX8_noteIn_10 : decode cX8_noteIn 10 = .ok (.invokestatic 108, 3) := by decide +kernel
theorem dX8_noteIn_13 : decode cX8_noteIn 13 = .ok (.ifCond .eq 11, 3) := by decide +kernel
theorem dX8_noteIn_16 : decode cX8_noteIn 16 = .ok (.new 128, 3) := by decide +kernel
theorem dX8_noteIn_19 : decode cX8_noteIn 19 = .ok (.dup, 1) := by decide +kernel
theorem dX8_noteIn_20 : decode cX8_noteIn 20 = .ok (.invokespecial 130, 3) := by decide +kernel
theorem dX8_noteIn_23 : decode cX8_noteIn 23 = .ok (.athrow, 1) := by decide +kernel
theorem dX8_noteIn_24 : decode cX8_noteIn 24 = .ok (.aload_n 3, 1) := by decide +kernel
theorem dX8_noteIn_25 : decode cX8_noteIn 25 = .ok (.aload_n 3, 1) := by decide +kernel
theorem dX8_noteIn_26 : decode cX8_noteIn 26 = .ok (.aload_n 0, 1) := by decide +kernel
theorem dX8_noteIn_27 : decode cX8_noteIn 27 = .ok (.getfield 20, 3) := by decide +kernel
theorem dX8_noteIn_30 : decode cX8_noteIn 30 = .ok (.getfield 151, 3) := by decide +kernel
theorem dX8_noteIn_33 : decode cX8_noteIn 33 = .ok (.invokevirtual 154, 3) := by decide +kernel
theorem dX8_noteIn_36 : decode cX8_noteIn 36 = .ok (.iload_n 2, 1) := by decide +kernel
theorem dX8_noteIn_37 : decode cX8_noteIn 37 = .ok (.iadd, 1) := by decide +kernel
theorem dX8_noteIn_38 : decode cX8_noteIn 38 = .ok (.invokevirtual 170, 3) := by decide +kernel
theorem dX8_noteIn_41 : decode cX8_noteIn 41 = .ok (.ireturn, 1) := by decide +kernel
theorem dX8_notices_0 : decode cX8_notices 0 = .ok (.aload_n 0, 1) := by decide +kernel
theorem dX8_notices_1 : decode cX8_notices 1 = .ok (.getfield 20, 3) := by decide +kernel
theorem dX8_notices_4 : decode cX8_notices 4 = .ok (.getfield 173, 3) := by decide +kernel
theorem dX8_notices_7 : decode cX8_notices 7 = .ok (.iload_n 1, 1) := by decide +kernel
theorem dX8_notices_8 : decode cX8_notices 8 = .ok (.invokevirtual 177, 3) := by decide +kernel
theorem dX8_notices_11 : decode cX8_notices 11 = .ok (.ifCond .ne 11, 3) := by decide +kernel
theorem dX8_notices_14 : decode cX8_notices 14 = .ok (.new 112, 3) := by decide +kernel
theorem dX8_notices_17 : decode cX8_notices 17 = .ok (.dup, 1) := by decide +kernel
theorem dX8_notices_18 : decode cX8_notices 18 = .ok (.invokespecial 114, 3) := by decide +kernel
theorem dX8_notices_21 : decode cX8_notices 21 = .ok (.athrow, 1) := by decide +kernel
theorem dX8_notices_22 : decode cX8_notices 22 = .ok (.aload_n 0, 1) := by decide +kernel
theorem dX8_notices_23 : decode cX8_notices 23 = .ok (.getfield 20, 3) := by decide +kernel
theorem dX8_notices_26 : decode cX8_notices 26 = .ok (.getfield 173, 3) := by decide +kernel
theorem dX8_notices_29 : decode cX8_notices 29 = .ok (.iload_n 1, 1) := by decide +kernel
theorem dX8_notices_30 : decode cX8_notices 30 = .ok (.aload_n 0, 1) := by decide +kernel
theorem dX8_notices_31 : decode cX8_notices 31 = .ok (.iload_n 2, 1) := by decide +kernel
theorem dX8_notices_32 : decode cX8_notices 32 = .ok (.invokevirtual 131, 3) := by decide +kernel
theorem dX8_notices_35 : decode cX8_notices 35 = .ok (.invokevirtual 157, 3) := by decide +kernel
theorem dX8_notices_38 : decode cX8_notices 38 = .ok (.invokevirtual 183, 3) := by decide +kernel
theorem dX8_notices_41 : decode cX8_notices 41 = .ok (.ireturn, 1) := by decide +kernel
theorem dX8_noticing_0 : decode cX8_noticing 0 = .ok (.aload_n 0, 1) := by decide +kernel
theorem dX8_noticing_1 : decode cX8_noticing 1 = .ok (.getfield 20, 3) := by decide +kernel
theorem dX8_noticing_4 : decode cX8_noticing 4 = .ok (.getfield 173, 3) := by decide +kernel
theorem dX8_noticing_7 : decode cX8_noticing 7 = .ok (.aload_n 0, 1) := by decide +kernel
theorem dX8_noticing_8 : decode cX8_noticing 8 = .ok (.iload_n 1, 1) := by decide +kernel
theorem dX8_noticing_9 : decode cX8_noticing 9 = .ok (.invokevirtual 131, 3) := by decide +kernel
theorem dX8_noticing_12 : decode cX8_noticing 12 = .ok (.invokevirtual 157, 3) := by decide +kernel
theorem dX8_noticing_15 : decode cX8_noticing 15 = .ok (.invokevirtual 187, 3) := by decide +kernel
theorem dX8_noticing_18 : decode cX8_noticing 18 = .ok (.ireturn, 1) := by decide +kernel
theorem dX8_hidden_0 : decode cX8_hidden 0 = .ok (.aload_n 0, 1) := by decide +kernel
theorem dX8_hidden_1 : decode cX8_hidden 1 = .ok (.iload_n 1, 1) := by decide +kernel
theorem dX8_hidden_2 : decode cX8_hidden 2 = .ok (.invokevirtual 190, 3) := by decide +kernel
theorem dX8_hidden_5 : decode cX8_hidden 5 = .ok (.astore_n 2, 1) := by decide +kernel
theorem dX8_hidden_6 : decode cX8_hidden 6 = .ok (.aload_n 0, 1) := by decide +kernel
theorem dX8_hidden_7 : decode cX8_hidden 7 = .ok (.getfield 20, 3) := by decide +kernel
theorem dX8_hidden_10 : decode cX8_hidden 10 = .ok (.aload_n 2, 1) := by decide +kernel
theorem dX8_hidden_11 : decode cX8_hidden 11 = .ok (.invokevirtual 193, 3) := by decide +kernel
theorem dX8_hidden_14 : decode cX8_hidden 14 = .ok (.istore_n 3, 1) := by decide +kernel
theorem dX8_hidden_15 : decode cX8_hidden 15 = .ok (.iload_n 3, 1) := by decide +kernel
theorem dX8_hidden_16 : decode cX8_hidden 16 = .ok (.ifCond .le 29, 3) := by decide +kernel
theorem dX8_hidden_19 : decode cX8_hidden 19 = .ok (.aload_n 0, 1) := by decide +kernel
theorem dX8_hidden_20 : decode cX8_hidden 20 = .ok (.getfield 20, 3) := by decide +kernel
theorem dX8_hidden_23 : decode cX8_hidden 23 = .ok (.getfield 173, 3) := by decide +kernel
theorem dX8_hidden_26 : decode cX8_hidden 26 = .ok (.aload_n 2, 1) := by decide +kernel
theorem dX8_hidden_27 : decode cX8_hidden 27 = .ok (.iload_n 3, 1) := by decide +kernel
theorem dX8_hidden_28 : decode cX8_hidden 28 = .ok (.invokevirtual 196, 3) := by decide +kernel
theorem dX8_hidden_31 : decode cX8_hidden 31 = .ok (.invokevirtual 187, 3) := by decide +kernel
theorem dX8_hidden_34 : decode cX8_hidden 34 = .ok (.ifCond .ne 5, 3) := by decide +kernel
theorem dX8_hidden_37 : decode cX8_hidden 37 = .ok (.iload_n 3, 1) := by decide +kernel
theorem dX8_hidden_38 : decode cX8_hidden 38 = .ok (.ireturn, 1) := by decide +kernel
theorem dX8_hidden_39 : decode cX8_hidden 39 = .ok (.iinc 3 (-1), 3) := by decide +kernel
theorem dX8_hidden_42 : decode cX8_hidden 42 = .ok (.goto (-27), 3) := by decide +kernel
theorem dX8_hidden_45 : decode cX8_hidden 45 = .ok (.iconst 0, 1) := by decide +kernel
theorem dX8_hidden_46 : decode cX8_hidden 46 = .ok (.ireturn, 1) := by decide +kernel
theorem dX8_hiddenAgain_0 : decode cX8_hiddenAgain 0 = .ok (.aload_n 0, 1) := by decide +kernel
theorem dX8_hiddenAgain_1 : decode cX8_hiddenAgain 1 = .ok (.iload_n 1, 1) := by decide +kernel
theorem dX8_hiddenAgain_2 : decode cX8_hiddenAgain 2 = .ok (.invokevirtual 190, 3) := by decide +kernel
theorem dX8_hiddenAgain_5 : decode cX8_hiddenAgain 5 = .ok (.astore_n 2, 1) := by decide +kernel
theorem dX8_hiddenAgain_6 : decode cX8_hiddenAgain 6 = .ok (.aload_n 0, 1) := by decide +kernel
theorem dX8_hiddenAgain_7 : decode cX8_hiddenAgain 7 = .ok (.getfield 20, 3) := by decide +kernel
theorem dX8_hiddenAgain_10 : decode cX8_hiddenAgain 10 = .ok (.aload_n 2, 1) := by decide +kernel
theorem dX8_hiddenAgain_11 : decode cX8_hiddenAgain 11 = .ok (.invokevirtual 193, 3) := by decide +kernel
theorem dX8_hiddenAgain_14 : decode cX8_hiddenAgain 14 = .ok (.istore_n 3, 1) := by decide +kernel
theorem dX8_hiddenAgain_15 : decode cX8_hiddenAgain 15 = .ok (.iconst 0, 1) := by decide +kernel
theorem dX8_hiddenAgain_16 : decode cX8_hiddenAgain 16 = .ok (.istore 4, 2) := by decide +kernel
theorem dX8_hiddenAgain_18 : decode cX8_hiddenAgain 18 = .ok (.iload 4, 2) := by decide +kernel
theorem dX8_hiddenAgain_20 : decode cX8_hiddenAgain 20 = .ok (.iload_n 3, 1) := by decide +kernel
theorem dX8_hiddenAgain_21 : decode cX8_hiddenAgain 21 = .ok (.if_icmp .ge 30, 3) := by decide +kernel
theorem dX8_hiddenAgain_24 : decode cX8_hiddenAgain 24 = .ok (.aload_n 0, 1) := by decide +kernel
theorem dX8_hiddenAgain_25 : decode cX8_hiddenAgain 25 = .ok (.getfield 20, 3) := by decide +kernel
theorem dX8_hiddenAgain_28 : decode cX8_hiddenAgain 28 = .ok (.getfield 173, 3) := by decide +kernel
theorem dX8_hiddenAgain_31 : decode cX8_hiddenAgain 31 = .ok (.aload_n 2, 1) := by decide +kernel
theorem dX8_hiddenAgain_32 : decode cX8_hiddenAgain 32 = .ok (.iload 4, 2) := by decide +kernel
theorem dX8_hiddenAgain_34 : decode cX8_hiddenAgain 34 = .ok (.iconst 1, 1) := by decide +kernel
theorem dX8_hiddenAgain_35 : decode cX8_hiddenAgain 35 = .ok (.iadd, 1) := by decide +kernel
theorem dX8_hiddenAgain_36 : decode cX8_hiddenAgain 36 = .ok (.invokevirtual 196, 3) := by decide +kernel
theorem dX8_hiddenAgain_39 : decode cX8_hiddenAgain 39 = .ok (.invokevirtual 199, 3) := by decide +kernel
theorem dX8_hiddenAgain_42 : decode cX8_hiddenAgain 42 = .ok (.ifCond .ne 9, 3) := by decide +kernel
theorem dX8_hiddenAgain_45 : decode cX8_hiddenAgain 45 = .ok (.iinc 4 1, 3) := by decide +kernel
theorem dX8_hiddenAgain_48 : decode cX8_hiddenAgain 48 = .ok (.goto (-30), 3) := by decide +kernel
theorem dX8_hiddenAgain_51 : decode cX8_hiddenAgain 51 = .ok (.iload 4, 2) := by decide +kernel
theorem dX8_hiddenAgain_53 : decode cX8_hiddenAgain 53 = .ok (.ireturn, 1) := by decide +kernel
theorem dX8_wouldCatch_0 : decode cX8_wouldCatch 0 = .ok (.iload_n 1, 1) := by decide +kernel
theorem dX8_wouldCatch_1 : decode cX8_wouldCatch 1 = .ok (.iconst 1, 1) := by decide +kernel
theorem dX8_wouldCatch_2 : decode cX8_wouldCatch 2 = .ok (.bipush 9, 2) := by decide +kernel
theorem dX8_wouldCatch_4 : decode cX8_wouldCatch 4 = .ok (.invokestatic 108, 3) := by decide +kernel
theorem dX8_wouldCatch_7 : decode cX8_wouldCatch 7 = .ok (.ifCond .eq 11, 3) := by decide +kernel
theorem dX8_wouldCatch_10 : decode cX8_wouldCatch 10 = .ok (.new 128, 3) := by decide +kernel
theorem dX8_wouldCatch_13 : decode cX8_wouldCatch 13 = .ok (.dup, 1) := by decide +kernel
theorem dX8_wouldCatch_14 : decode cX8_wouldCatch 14 = .ok (.invokespecial 130, 3) := by decide +kernel
theorem dX8_wouldCatch_17 : decode cX8_wouldCatch 17 = .ok (.athrow, 1) := by decide +kernel
theorem dX8_wouldCatch_18 : decode cX8_wouldCatch 18 = .ok (.aload_n 0, 1) := by decide +kernel
theorem dX8_wouldCatch_19 : decode cX8_wouldCatch 19 = .ok (.getfield 20, 3) := by decide +kernel
theorem dX8_wouldCatch_22 : decode cX8_wouldCatch 22 = .ok (.iload_n 1, 1) := by decide +kernel
theorem dX8_wouldCatch_23 : decode cX8_wouldCatch 23 = .ok (.invokevirtual 202, 3) := by decide +kernel
theorem dX8_wouldCatch_26 : decode cX8_wouldCatch 26 = .ok (.ireturn, 1) := by decide +kernel
theorem dX8_wouldLose_0 : decode cX8_wouldLose 0 = .ok (.iload_n 1, 1) := by decide +kernel
theorem dX8_wouldLose_1 : decode cX8_wouldLose 1 = .ok (.iconst 1, 1) := by decide +kernel
theorem dX8_wouldLose_2 : decode cX8_wouldLose 2 = .ok (.bipush 9, 2) := by decide +kernel
theorem dX8_wouldLose_4 : decode cX8_wouldLose 4 = .ok (.invokestatic 108, 3) := by decide +kernel
theorem dX8_wouldLose_7 : decode cX8_wouldLose 7 = .ok (.ifCond .eq 11, 3) := by decide +kernel
theorem dX8_wouldLose_10 : decode cX8_wouldLose 10 = .ok (.new 128, 3) := by decide +kernel
theorem dX8_wouldLose_13 : decode cX8_wouldLose 13 = .ok (.dup, 1) := by decide +kernel
theorem dX8_wouldLose_14 : decode cX8_wouldLose 14 = .ok (.invokespecial 130, 3) := by decide +kernel
theorem dX8_wouldLose_17 : decode cX8_wouldLose 17 = .ok (.athrow, 1) := by decide +kernel
theorem dX8_wouldLose_18 : decode cX8_wouldLose 18 = .ok (.iload_n 1, 1) := by decide +kernel
theorem dX8_wouldLose_19 : decode cX8_wouldLose 19 = .ok (.invokestatic 205, 3) := by decide +kernel
theorem dX8_wouldLose_22 : decode cX8_wouldLose 22 = .ok (.aload_n 0, 1) := by decide +kernel
theorem dX8_wouldLose_23 : decode cX8_wouldLose 23 = .ok (.getfield 20, 3) := by decide +kernel
theorem dX8_wouldLose_26 : decode cX8_wouldLose 26 = .ok (.iload_n 1, 1) := by decide +kernel
theorem dX8_wouldLose_27 : decode cX8_wouldLose 27 = .ok (.invokevirtual 202, 3) := by decide +kernel
theorem dX8_wouldLose_30 : decode cX8_wouldLose 30 = .ok (.isub, 1) := by decide +kernel
theorem dX8_wouldLose_31 : decode cX8_wouldLose 31 = .ok (.ireturn, 1) := by decide +kernel
theorem dX8_vintage_0 : decode cX8_vintage 0 = .ok (.iload_n 1, 1) := by decide +kernel
theorem dX8_vintage_1 : decode cX8_vintage 1 = .ok (.iconst 0, 1) := by decide +kernel
theorem dX8_vintage_2 : decode cX8_vintage 2 = .ok (.aload_n 0, 1) := by decide +kernel
theorem dX8_vintage_3 : decode cX8_vintage 3 = .ok (.getfield 20, 3) := by decide +kernel
theorem dX8_vintage_6 : decode cX8_vintage 6 = .ok (.getfield 208, 3) := by decide +kernel
theorem dX8_vintage_9 : decode cX8_vintage 9 = .ok (.iconst 1, 1) := by decide +kernel
theorem dX8_vintage_10 : decode cX8_vintage 10 = .ok (.isub, 1) := by decide +kernel
theorem dX8_vintage_11 : decode cX8_vintage 11 = .ok (.invokestatic 108, 3) := by decide +kernel
theorem dX8_vintage_14 : decode cX8_vintage 14 = .ok (.ifCond .eq 11, 3) := by decide +kernel
theorem dX8_vintage_17 : decode cX8_vintage 17 = .ok (.new 211, 3) := by decide +kernel
theorem dX8_vintage_20 : decode cX8_vintage 20 = .ok (.dup, 1) := by decide +kernel
theorem dX8_vintage_21 : decode cX8_vintage 21 = .ok (.invokespecial 213, 3) := by decide +kernel
theorem dX8_vintage_24 : decode cX8_vintage 24 = .ok (.athrow, 1) := by decide +kernel
theorem dX8_vintage_25 : decode cX8_vintage 25 = .ok (.aload_n 0, 1) := by decide +kernel
theorem dX8_vintage_26 : decode cX8_vintage 26 = .ok (.getfield 20, 3) := by decide +kernel
theorem dX8_vintage_29 : decode cX8_vintage 29 = .ok (.iload_n 1, 1) := by decide +kernel
theorem dX8_vintage_30 : decode cX8_vintage 30 = .ok (.invokevirtual 214, 3) := by decide +kernel
theorem dX8_vintage_33 : decode cX8_vintage 33 = .ok (.ireturn, 1) := by decide +kernel
theorem dX8_stormOf_0 : decode cX8_stormOf 0 = .ok (.aload_n 0, 1) := by decide +kernel
theorem dX8_stormOf_1 : decode cX8_stormOf 1 = .ok (.getfield 20, 3) := by decide +kernel
theorem dX8_stormOf_4 : decode cX8_stormOf 4 = .ok (.iload_n 1, 1) := by decide +kernel
theorem dX8_stormOf_5 : decode cX8_stormOf 5 = .ok (.invokevirtual 217, 3) := by decide +kernel
theorem dX8_stormOf_8 : decode cX8_stormOf 8 = .ok (.ifCond .ne 11, 3) := by decide +kernel
theorem dX8_stormOf_11 : decode cX8_stormOf 11 = .ok (.new 211, 3) := by decide +kernel
theorem dX8_stormOf_14 : decode cX8_stormOf 14 = .ok (.dup, 1) := by decide +kernel
theorem dX8_stormOf_15 : decode cX8_stormOf 15 = .ok (.invokespecial 213, 3) := by decide +kernel
theorem dX8_stormOf_18 : decode cX8_stormOf 18 = .ok (.athrow, 1) := by decide +kernel
theorem dX8_stormOf_19 : decode cX8_stormOf 19 = .ok (.aload_n 0, 1) := by decide +kernel
theorem dX8_stormOf_20 : decode cX8_stormOf 20 = .ok (.getfield 20, 3) := by decide +kernel
theorem dX8_stormOf_23 : decode cX8_stormOf 23 = .ok (.iload_n 1, 1) := by decide +kernel
theorem dX8_stormOf_24 : decode cX8_stormOf 24 = .ok (.invokevirtual 220, 3) := by decide +kernel
theorem dX8_stormOf_27 : decode cX8_stormOf 27 = .ok (.astore_n 3, 1) := by decide +kernel
theorem dX8_stormOf_28 : decode cX8_stormOf 28 = .ok (.iload_n 2, 1) := by decide +kernel
theorem dX8_stormOf_29 : decode cX8_stormOf 29 = .ok (.tableswitch 42 0 2 #[27, 32, 37], 27) := by decide +kernel
theorem dX8_stormOf_56 : decode cX8_stormOf 56 = .ok (.aload_n 3, 1) := by decide +kernel
theorem dX8_stormOf_57 : decode cX8_stormOf 57 = .ok (.getfield 224, 3) := by decide +kernel
theorem dX8_stormOf_60 : decode cX8_stormOf 60 = .ok (.ireturn, 1) := by decide +kernel
theorem dX8_stormOf_61 : decode cX8_stormOf 61 = .ok (.aload_n 3, 1) := by decide +kernel
theorem dX8_stormOf_62 : decode cX8_stormOf 62 = .ok (.getfield 229, 3) := by decide +kernel
theorem dX8_stormOf_65 : decode cX8_stormOf 65 = .ok (.ireturn, 1) := by decide +kernel
theorem dX8_stormOf_66 : decode cX8_stormOf 66 = .ok (.aload_n 3, 1) := by decide +kernel
theorem dX8_stormOf_67 : decode cX8_stormOf 67 = .ok (.getfield 230, 3) := by decide +kernel
theorem dX8_stormOf_70 : decode cX8_stormOf 70 = .ok (.ireturn, 1) := by decide +kernel
theorem dX8_stormOf_71 : decode cX8_stormOf 71 = .ok (.new 128, 3) := by decide +kernel
theorem dX8_stormOf_74 : decode cX8_stormOf 74 = .ok (.dup, 1) := by decide +kernel
theorem dX8_stormOf_75 : decode cX8_stormOf 75 = .ok (.invokespecial 130, 3) := by decide +kernel
theorem dX8_stormOf_78 : decode cX8_stormOf 78 = .ok (.athrow, 1) := by decide +kernel
theorem dX8_canPour_0 : decode cX8_canPour 0 = .ok (.aload_n 0, 1) := by decide +kernel
theorem dX8_canPour_1 : decode cX8_canPour 1 = .ok (.iload_n 1, 1) := by decide +kernel
theorem dX8_canPour_2 : decode cX8_canPour 2 = .ok (.invokevirtual 131, 3) := by decide +kernel
theorem dX8_canPour_5 : decode cX8_canPour 5 = .ok (.astore_n 3, 1) := by decide +kernel
theorem dX8_canPour_6 : decode cX8_canPour 6 = .ok (.aload_n 0, 1) := by decide +kernel
theorem dX8_canPour_7 : decode cX8_canPour 7 = .ok (.iload_n 2, 1) := by decide +kernel
theorem dX8_canPour_8 : decode cX8_canPour 8 = .ok (.invokevirtual 131, 3) := by decide +kernel
theorem dX8_canPour_11 : decode cX8_canPour 11 = .ok (.astore 4, 2) := by decide +kernel
theorem dX8_canPour_13 : decode cX8_canPour 13 = .ok (.iload_n 1, 1) := by decide +kernel
theorem dX8_canPour_14 : decode cX8_canPour 14 = .ok (.iload_n 2, 1) := by decide +kernel
theorem dX8_canPour_15 : decode cX8_canPour 15 = .ok (.if_icmp .eq 34, 3) := by decide +kernel
theorem dX8_canPour_18 : decode cX8_canPour 18 = .ok (.aload_n 3, 1) := by decide +kernel
theorem dX8_canPour_19 : decode cX8_canPour 19 = .ok (.getfield 140, 3) := by decide +kernel
theorem dX8_canPour_22 : decode cX8_canPour 22 = .ok (.ifCond .le 27, 3) := by decide +kernel
theorem dX8_canPour_25 : decode cX8_canPour 25 = .ok (.aload 4, 2) := by decide +kernel
theorem dX8_canPour_27 : decode cX8_canPour 27 = .ok (.invokevirtual 231, 3) := by decide +kernel
theorem dX8_canPour_30 : decode cX8_canPour 30 = .ok (.ifCond .le 19, 3) := by decide +kernel
theorem dX8_canPour_33 : decode cX8_canPour 33 = .ok (.aload 4, 2) := by decide +kernel
theorem dX8_canPour_35 : decode cX8_canPour 35 = .ok (.aload_n 3, 1) := by decide +kernel
theorem dX8_canPour_36 : decode cX8_canPour 36 = .ok (.getfield 146, 3) := by decide +kernel
theorem dX8_canPour_39 : decode cX8_canPour 39 = .ok (.invokevirtual 234, 3) := by decide +kernel
theorem dX8_canPour_42 : decode cX8_canPour 42 = .ok (.ifCond .eq 7, 3) := by decide +kernel
theorem dX8_canPour_45 : decode cX8_canPour 45 = .ok (.iconst 1, 1) := by decide +kernel
theorem dX8_canPour_46 : decode cX8_canPour 46 = .ok (.goto 4, 3) := by decide +kernel
theorem dX8_canPour_49 : decode cX8_canPour 49 = .ok (.iconst 0, 1) := by decide +kernel
theorem dX8_canPour_50 : decode cX8_canPour 50 = .ok (.ireturn, 1) := by decide +kernel
theorem dX8_ranked_0 : decode cX8_ranked 0 = .ok (.iload_n 1, 1) := by decide +kernel
theorem dX8_ranked_1 : decode cX8_ranked 1 = .ok (.iconst 0, 1) := by decide +kernel
theorem dX8_ranked_2 : decode cX8_ranked 2 = .ok (.iconst 3, 1) := by decide +kernel
theorem dX8_ranked_3 : decode cX8_ranked 3 = .ok (.invokestatic 108, 3) := by decide +kernel
theorem dX8_ranked_6 : decode cX8_ranked 6 = .ok (.ifCond .eq 11, 3) := by decide +kernel
theorem dX8_ranked_9 : decode cX8_ranked 9 = .ok (.new 128, 3) := by decide +kernel
theorem dX8_ranked_12 : decode cX8_ranked 12 = .ok (.dup, 1) := by decide +kernel
theorem dX8_ranked_13 : decode cX8_ranked 13 = .ok (.invokespecial 130, 3) := by decide +kernel
theorem dX8_ranked_16 : decode cX8_ranked 16 = .ok (.athrow, 1) := by decide +kernel
theorem dX8_ranked_17 : decode cX8_ranked 17 = .ok (.iconst 0, 1) := by decide +kernel
theorem dX8_ranked_18 : decode cX8_ranked 18 = .ok (.istore_n 3, 1) := by decide +kernel
theorem dX8_ranked_19 : decode cX8_ranked 19 = .ok (.iload_n 3, 1) := by decide +kernel
theorem dX8_ranked_20 : decode cX8_ranked 20 = .ok (.aload_n 0, 1) := by decide +kernel
theorem dX8_ranked_21 : decode cX8_ranked 21 = .ok (.getfield 20, 3) := by decide +kernel
theorem dX8_ranked_24 : decode cX8_ranked 24 = .ok (.getfield 237, 3) := by decide +kernel
theorem dX8_ranked_27 : decode cX8_ranked 27 = .ok (.if_icmp .ge 24, 3) := by decide +kernel
theorem dX8_ranked_30 : decode cX8_ranked 30 = .ok (.aload_n 0, 1) := by decide +kernel
theorem dX8_ranked_31 : decode cX8_ranked 31 = .ok (.getfield 20, 3) := by decide +kernel
theorem dX8_ranked_34 : decode cX8_ranked 34 = .ok (.iload_n 3, 1) := by decide +kernel
theorem dX8_ranked_35 : decode cX8_ranked 35 = .ok (.iload_n 1, 1) := by decide +kernel
theorem dX8_ranked_36 : decode cX8_ranked 36 = .ok (.invokevirtual 240, 3) := by decide +kernel
theorem dX8_ranked_39 : decode cX8_ranked 39 = .ok (.iload_n 2, 1) := by decide +kernel
theorem dX8_ranked_40 : decode cX8_ranked 40 = .ok (.if_icmp .ne 5, 3) := by decide +kernel
theorem dX8_ranked_43 : decode cX8_ranked 43 = .ok (.iload_n 3, 1) := by decide +kernel
theorem dX8_ranked_44 : decode cX8_ranked 44 = .ok (.ireturn, 1) := by decide +kernel
theorem dX8_ranked_45 : decode cX8_ranked 45 = .ok (.iinc 3 1, 3) := by decide +kernel
theorem dX8_ranked_48 : decode cX8_ranked 48 = .ok (.goto (-29), 3) := by decide +kernel
theorem dX8_ranked_51 : decode cX8_ranked 51 = .ok (.new 211, 3) := by decide +kernel
theorem dX8_ranked_54 : decode cX8_ranked 54 = .ok (.dup, 1) := by decide +kernel
theorem dX8_ranked_55 : decode cX8_ranked 55 = .ok (.invokespecial 213, 3) := by decide +kernel
theorem dX8_ranked_58 : decode cX8_ranked 58 = .ok (.athrow, 1) := by decide +kernel
theorem dX8_isEven_0 : decode cX8_isEven 0 = .ok (.aload_n 0, 1) := by decide +kernel
theorem dX8_isEven_1 : decode cX8_isEven 1 = .ok (.getfield 20, 3) := by decide +kernel
theorem dX8_isEven_4 : decode cX8_isEven 4 = .ok (.getfield 243, 3) := by decide +kernel
theorem dX8_isEven_7 : decode cX8_isEven 7 = .ok (.aload_n 0, 1) := by decide +kernel
theorem dX8_isEven_8 : decode cX8_isEven 8 = .ok (.getfield 20, 3) := by decide +kernel
theorem dX8_isEven_11 : decode cX8_isEven 11 = .ok (.getfield 246, 3) := by decide +kernel
theorem dX8_isEven_14 : decode cX8_isEven 14 = .ok (.iadd, 1) := by decide +kernel
theorem dX8_isEven_15 : decode cX8_isEven 15 = .ok (.aload_n 0, 1) := by decide +kernel
theorem dX8_isEven_16 : decode cX8_isEven 16 = .ok (.getfield 20, 3) := by decide +kernel
theorem dX8_isEven_19 : decode cX8_isEven 19 = .ok (.invokevirtual 249, 3) := by decide +kernel
theorem dX8_isEven_22 : decode cX8_isEven 22 = .ok (.aload_n 0, 1) := by decide +kernel
theorem dX8_isEven_23 : decode cX8_isEven 23 = .ok (.getfield 20, 3) := by decide +kernel
theorem dX8_isEven_26 : decode cX8_isEven 26 = .ok (.getfield 252, 3) := by decide +kernel
theorem dX8_isEven_29 : decode cX8_isEven 29 = .ok (.iadd, 1) := by decide +kernel
theorem dX8_isEven_30 : decode cX8_isEven 30 = .ok (.aload_n 0, 1) := by decide +kernel
theorem dX8_isEven_31 : decode cX8_isEven 31 = .ok (.getfield 20, 3) := by decide +kernel
theorem dX8_isEven_34 : decode cX8_isEven 34 = .ok (.getfield 255, 3) := by decide +kernel
theorem dX8_isEven_37 : decode cX8_isEven 37 = .ok (.iadd, 1) := by decide +kernel
theorem dX8_isEven_38 : decode cX8_isEven 38 = .ok (.if_icmp .ne 7, 3) := by decide +kernel
theorem dX8_isEven_41 : decode cX8_isEven 41 = .ok (.iconst 1, 1) := by decide +kernel
theorem dX8_isEven_42 : decode cX8_isEven 42 = .ok (.goto 4, 3) := by decide +kernel
theorem dX8_isEven_45 : decode cX8_isEven 45 = .ok (.iconst 0, 1) := by decide +kernel
theorem dX8_isEven_46 : decode cX8_isEven 46 = .ok (.ireturn, 1) := by decide +kernel
theorem dX8_append_0 : decode cX8_append 0 = .ok (.aload_n 0, 1) := by decide +kernel
theorem dX8_append_1 : decode cX8_append 1 = .ok (.getfield 48, 3) := by decide +kernel
theorem dX8_append_4 : decode cX8_append 4 = .ok (.getfield 258, 3) := by decide +kernel
theorem dX8_append_7 : decode cX8_append 7 = .ok (.bipush 60, 2) := by decide +kernel
theorem dX8_append_9 : decode cX8_append 9 = .ok (.if_icmp .lt 11, 3) := by decide +kernel
theorem dX8_append_12 : decode cX8_append 12 = .ok (.new 261, 3) := by decide +kernel
theorem dX8_append_15 : decode cX8_append 15 = .ok (.dup, 1) := by decide +kernel
theorem dX8_append_16 : decode cX8_append 16 = .ok (.invokespecial 263, 3) := by decide +kernel
theorem dX8_append_19 : decode cX8_append 19 = .ok (.athrow, 1) := by decide +kernel
theorem dX8_append_20 : decode cX8_append 20 = .ok (.aload_n 0, 1) := by decide +kernel
theorem dX8_append_21 : decode cX8_append 21 = .ok (.getfield 48, 3) := by decide +kernel
theorem dX8_append_24 : decode cX8_append 24 = .ok (.iload_n 1, 1) := by decide +kernel
theorem dX8_append_25 : decode cX8_append 25 = .ok (.invokevirtual 264, 3) := by decide +kernel
theorem dX8_append_28 : decode cX8_append 28 = .ok (.aload_n 0, 1) := by decide +kernel
theorem dX8_append_29 : decode cX8_append 29 = .ok (.getfield 48, 3) := by decide +kernel
theorem dX8_append_32 : decode cX8_append 32 = .ok (.getfield 258, 3) := by decide +kernel
theorem dX8_append_35 : decode cX8_append 35 = .ok (.ireturn, 1) := by decide +kernel
theorem dX8_commands_0 : decode cX8_commands 0 = .ok (.aload_n 0, 1) := by decide +kernel
theorem dX8_commands_1 : decode cX8_commands 1 = .ok (.aload_n 0, 1) := by decide +kernel
theorem dX8_commands_2 : decode cX8_commands 2 = .ok (.getfield 48, 3) := by decide +kernel
theorem dX8_commands_5 : decode cX8_commands 5 = .ok (.invokevirtual 268, 3) := by decide +kernel
theorem dX8_commands_8 : decode cX8_commands 8 = .ok (.putfield 52, 3) := by decide +kernel
theorem dX8_commands_11 : decode cX8_commands 11 = .ok (.aload_n 0, 1) := by decide +kernel
theorem dX8_commands_12 : decode cX8_commands 12 = .ok (.getfield 48, 3) := by decide +kernel
theorem dX8_commands_15 : decode cX8_commands 15 = .ok (.invokevirtual 271, 3) := by decide +kernel
theorem dX8_commands_18 : decode cX8_commands 18 = .ok (.aload_n 0, 1) := by decide +kernel
theorem dX8_commands_19 : decode cX8_commands 19 = .ok (.getfield 52, 3) := by decide +kernel
theorem dX8_commands_22 : decode cX8_commands 22 = .ok (.iconst (-1), 1) := by decide +kernel
theorem dX8_commands_23 : decode cX8_commands 23 = .ok (.if_icmp .eq 11, 3) := by decide +kernel
theorem dX8_commands_26 : decode cX8_commands 26 = .ok (.new 128, 3) := by decide +kernel
theorem dX8_commands_29 : decode cX8_commands 29 = .ok (.dup, 1) := by decide +kernel
theorem dX8_commands_30 : decode cX8_commands 30 = .ok (.invokespecial 130, 3) := by decide +kernel
theorem dX8_commands_33 : decode cX8_commands 33 = .ok (.athrow, 1) := by decide +kernel
theorem dX8_commands_34 : decode cX8_commands 34 = .ok (.aload_n 0, 1) := by decide +kernel
theorem dX8_commands_35 : decode cX8_commands 35 = .ok (.getfield 41, 3) := by decide +kernel
theorem dX8_commands_38 : decode cX8_commands 38 = .ok (.aload_n 0, 1) := by decide +kernel
theorem dX8_commands_39 : decode cX8_commands 39 = .ok (.getfield 20, 3) := by decide +kernel
theorem dX8_commands_42 : decode cX8_commands 42 = .ok (.invokevirtual 63, 3) := by decide +kernel
theorem dX8_commands_45 : decode cX8_commands 45 = .ok (.iconst 0, 1) := by decide +kernel
theorem dX8_commands_46 : decode cX8_commands 46 = .ok (.istore_n 1, 1) := by decide +kernel
theorem dX8_commands_47 : decode cX8_commands 47 = .ok (.iload_n 1, 1) := by decide +kernel
theorem dX8_commands_48 : decode cX8_commands 48 = .ok (.aload_n 0, 1) := by decide +kernel
theorem dX8_commands_49 : decode cX8_commands 49 = .ok (.getfield 48, 3) := by decide +kernel
theorem dX8_commands_52 : decode cX8_commands 52 = .ok (.getfield 274, 3) := by decide +kernel
theorem dX8_commands_55 : decode cX8_commands 55 = .ok (.if_icmp .ge 48, 3) := by decide +kernel
theorem dX8_commands_58 : decode cX8_commands 58 = .ok (.aload_n 0, 1) := by decide +kernel
theorem dX8_commands_59 : decode cX8_commands 59 = .ok (.iload_n 1, 1) := by decide +kernel
theorem dX8_commands_60 : decode cX8_commands 60 = .ok (.invokevirtual 277, 3) := by decide +kernel
theorem dX8_commands_63 : decode cX8_commands 63 = .ok (.iconst (-1), 1) := by decide +kernel
theorem dX8_commands_64 : decode cX8_commands 64 = .ok (.if_icmp .ne 33, 3) := by decide +kernel
theorem dX8_commands_67 : decode cX8_commands 67 = .ok (.aload_n 0, 1) := by decide +kernel
theorem dX8_commands_68 : decode cX8_commands 68 = .ok (.getfield 20, 3) := by decide +kernel
theorem dX8_commands_71 : decode cX8_commands 71 = .ok (.aload_n 0, 1) := by decide +kernel
theorem dX8_commands_72 : decode cX8_commands 72 = .ok (.getfield 41, 3) := by decide +kernel
theorem dX8_commands_75 : decode cX8_commands 75 = .ok (.invokevirtual 280, 3) := by decide +kernel
theorem dX8_commands_78 : decode cX8_commands 78 = .ok (.invokevirtual 284, 3) := by decide +kernel
theorem dX8_commands_81 : decode cX8_commands 81 = .ok (.aload_n 0, 1) := by decide +kernel
theorem dX8_commands_82 : decode cX8_commands 82 = .ok (.getfield 27, 3) := by decide +kernel
theorem dX8_commands_85 : decode cX8_commands 85 = .ok (.iload_n 1, 1) := by decide +kernel
theorem dX8_commands_86 : decode cX8_commands 86 = .ok (.putfield 287, 3) := by decide +kernel
theorem dX8_commands_89 : decode cX8_commands 89 = .ok (.new 292, 3) := by decide +kernel
theorem dX8_commands_92 : decode cX8_commands 92 = .ok (.dup, 1) := by decide +kernel
theorem dX8_commands_93 : decode cX8_commands 93 = .ok (.invokespecial 294, 3) := by decide +kernel
theorem dX8_commands_96 : decode cX8_commands 96 = .ok (.athrow, 1) := by decide +kernel
theorem dX8_commands_97 : decode cX8_commands 97 = .ok (.iinc 1 1, 3) := by decide +kernel
theorem dX8_commands_100 : decode cX8_commands 100 = .ok (.goto (-53), 3) := by decide +kernel
theorem dX8_commands_103 : decode cX8_commands 103 = .ok (.aload_n 0, 1) := by decide +kernel
theorem dX8_commands_104 : decode cX8_commands 104 = .ok (.getfield 41, 3) := by decide +kernel
theorem dX8_commands_107 : decode cX8_commands 107 = .ok (.invokevirtual 105, 3) := by decide +kernel
theorem dX8_commands_110 : decode cX8_commands 110 = .ok (.aload_n 0, 1) := by decide +kernel
theorem dX8_commands_111 : decode cX8_commands 111 = .ok (.getfield 48, 3) := by decide +kernel
theorem dX8_commands_114 : decode cX8_commands 114 = .ok (.getfield 274, 3) := by decide +kernel
theorem dX8_commands_117 : decode cX8_commands 117 = .ok (.ireturn, 1) := by decide +kernel
theorem dX8_line_0 : decode cX8_line 0 = .ok (.aload_n 0, 1) := by decide +kernel
theorem dX8_line_1 : decode cX8_line 1 = .ok (.iload_n 1, 1) := by decide +kernel
theorem dX8_line_2 : decode cX8_line 2 = .ok (.invokevirtual 131, 3) := by decide +kernel
theorem dX8_line_5 : decode cX8_line 5 = .ok (.astore_n 2, 1) := by decide +kernel
theorem dX8_line_6 : decode cX8_line 6 = .ok (.aload_n 0, 1) := by decide +kernel
theorem dX8_line_7 : decode cX8_line 7 = .ok (.getfield 59, 3) := by decide +kernel
theorem dX8_line_10 : decode cX8_line 10 = .ok (.iconst 0, 1) := by decide +kernel
theorem dX8_line_11 : decode cX8_line 11 = .ok (.invokevirtual 301, 3) := by decide +kernel
theorem dX8_line_14 : decode cX8_line 14 = .ok (.aload_n 0, 1) := by decide +kernel
theorem dX8_line_15 : decode cX8_line 15 = .ok (.getfield 59, 3) := by decide +kernel
theorem dX8_line_18 : decode cX8_line 18 = .ok (.aload_n 2, 1) := by decide +kernel
theorem dX8_line_19 : decode cX8_line 19 = .ok (.getfield 135, 3) := by decide +kernel
theorem dX8_line_22 : decode cX8_line 22 = .ok (.invokevirtual 305, 3) := by decide +kernel
theorem dX8_line_25 : decode cX8_line 25 = .ok (.bipush 58, 2) := by decide +kernel
theorem dX8_line_27 : decode cX8_line 27 = .ok (.invokevirtual 309, 3) := by decide +kernel
theorem dX8_line_30 : decode cX8_line 30 = .ok (.aload_n 2, 1) := by decide +kernel
theorem dX8_line_31 : decode cX8_line 31 = .ok (.getfield 140, 3) := by decide +kernel
theorem dX8_line_34 : decode cX8_line 34 = .ok (.invokevirtual 305, 3) := by decide +kernel
theorem dX8_line_37 : decode cX8_line 37 = .ok (.pop, 1) := by decide +kernel
theorem dX8_line_38 : decode cX8_line 38 = .ok (.aload_n 2, 1) := by decide +kernel
theorem dX8_line_39 : decode cX8_line 39 = .ok (.invokevirtual 312, 3) := by decide +kernel
theorem dX8_line_42 : decode cX8_line 42 = .ok (.ifCond .ne 32, 3) := by decide +kernel
theorem dX8_line_45 : decode cX8_line 45 = .ok (.aload_n 0, 1) := by decide +kernel
theorem dX8_line_46 : decode cX8_line 46 = .ok (.getfield 59, 3) := by decide +kernel
theorem dX8_line_49 : decode cX8_line 49 = .ok (.bipush 35, 2) := by decide +kernel
theorem dX8_line_51 : decode cX8_line 51 = .ok (.invokevirtual 309, 3) := by decide +kernel
theorem dX8_line_54 : decode cX8_line 54 = .ok (.aload_n 2, 1) := by decide +kernel
theorem dX8_line_55 : decode cX8_line 55 = .ok (.getfield 146, 3) := by decide +kernel
theorem dX8_line_58 : decode cX8_line 58 = .ok (.invokevirtual 305, 3) := by decide +kernel
theorem dX8_line_61 : decode cX8_line 61 = .ok (.bipush 109, 2) := by decide +kernel
theorem dX8_line_63 : decode cX8_line 63 = .ok (.invokevirtual 309, 3) := by decide +kernel
theorem dX8_line_66 : decode cX8_line 66 = .ok (.aload_n 2, 1) := by decide +kernel
theorem dX8_line_67 : decode cX8_line 67 = .ok (.getfield 149, 3) := by decide +kernel
theorem dX8_line_70 : decode cX8_line 70 = .ok (.invokevirtual 305, 3) := by decide +kernel
theorem dX8_line_73 : decode cX8_line 73 = .ok (.pop, 1) := by decide +kernel
theorem dX8_line_74 : decode cX8_line 74 = .ok (.aload_n 2, 1) := by decide +kernel
theorem dX8_line_75 : decode cX8_line 75 = .ok (.getfield 143, 3) := by decide +kernel
theorem dX8_line_78 : decode cX8_line 78 = .ok (.ifCond .le 20, 3) := by decide +kernel
theorem dX8_line_81 : decode cX8_line 81 = .ok (.aload_n 0, 1) := by decide +kernel
theorem dX8_line_82 : decode cX8_line 82 = .ok (.getfield 59, 3) := by decide +kernel
theorem dX8_line_85 : decode cX8_line 85 = .ok (.bipush 104, 2) := by decide +kernel
theorem dX8_line_87 : decode cX8_line 87 = .ok (.invokevirtual 309, 3) := by decide +kernel
theorem dX8_line_90 : decode cX8_line 90 = .ok (.aload_n 2, 1) := by decide +kernel
theorem dX8_line_91 : decode cX8_line 91 = .ok (.getfield 143, 3) := by decide +kernel
theorem dX8_line_94 : decode cX8_line 94 = .ok (.invokevirtual 305, 3) := by decide +kernel
theorem dX8_line_97 : decode cX8_line 97 = .ok (.pop, 1) := by decide +kernel
theorem dX8_line_98 : decode cX8_line 98 = .ok (.aload_n 0, 1) := by decide +kernel
theorem dX8_line_99 : decode cX8_line 99 = .ok (.getfield 59, 3) := by decide +kernel
theorem dX8_line_102 : decode cX8_line 102 = .ok (.invokevirtual 316, 3) := by decide +kernel
theorem dX8_line_105 : decode cX8_line 105 = .ok (.ireturn, 1) := by decide +kernel
theorem dX8_panel_0 : decode cX8_panel 0 = .ok (.aload_n 0, 1) := by decide +kernel
theorem dX8_panel_1 : decode cX8_panel 1 = .ok (.getfield 59, 3) := by decide +kernel
theorem dX8_panel_4 : decode cX8_panel 4 = .ok (.iconst 0, 1) := by decide +kernel
theorem dX8_panel_5 : decode cX8_panel 5 = .ok (.invokevirtual 301, 3) := by decide +kernel
theorem dX8_panel_8 : decode cX8_panel 8 = .ok (.iconst 0, 1) := by decide +kernel
theorem dX8_panel_9 : decode cX8_panel 9 = .ok (.istore_n 1, 1) := by decide +kernel
theorem dX8_panel_10 : decode cX8_panel 10 = .ok (.iload_n 1, 1) := by decide +kernel
theorem dX8_panel_11 : decode cX8_panel 11 = .ok (.aload_n 0, 1) := by decide +kernel
theorem dX8_panel_12 : decode cX8_panel 12 = .ok (.getfield 20, 3) := by decide +kernel
theorem dX8_panel_15 : decode cX8_panel 15 = .ok (.getfield 173, 3) := by decide +kernel
theorem dX8_panel_18 : decode cX8_panel 18 = .ok (.getfield 318, 3) := by decide +kernel
theorem dX8_panel_21 : decode cX8_panel 21 = .ok (.if_icmp .ge 68, 3) := by decide +kernel
theorem dX8_panel_24 : decode cX8_panel 24 = .ok (.iload_n 1, 1) := by decide +kernel
theorem dX8_panel_25 : decode cX8_panel 25 = .ok (.ifCond .le 13, 3) := by decide +kernel
theorem dX8_panel_28 : decode cX8_panel 28 = .ok (.aload_n 0, 1) := by decide +kernel
theorem dX8_panel_29 : decode cX8_panel 29 = .ok (.getfield 59, 3) := by decide +kernel
theorem dX8_panel_32 : decode cX8_panel 32 = .ok (.bipush 32, 2) := by decide +kernel
theorem dX8_panel_34 : decode cX8_panel 34 = .ok (.invokevirtual 309, 3) := by decide +kernel
theorem dX8_panel_37 : decode cX8_panel 37 = .ok (.pop, 1) := by decide +kernel
theorem dX8_panel_38 : decode cX8_panel 38 = .ok (.aload_n 0, 1) := by decide +kernel
theorem dX8_panel_39 : decode cX8_panel 39 = .ok (.getfield 59, 3) := by decide +kernel
theorem dX8_panel_42 : decode cX8_panel 42 = .ok (.aload_n 0, 1) := by decide +kernel
theorem dX8_panel_43 : decode cX8_panel 43 = .ok (.getfield 20, 3) := by decide +kernel
theorem dX8_panel_46 : decode cX8_panel 46 = .ok (.getfield 173, 3) := by decide +kernel
theorem dX8_panel_49 : decode cX8_panel 49 = .ok (.getfield 321, 3) := by decide +kernel
theorem dX8_panel_52 : decode cX8_panel 52 = .ok (.iload_n 1, 1) := by decide +kernel
theorem dX8_panel_53 : decode cX8_panel 53 = .ok (.baload, 1) := by decide +kernel
theorem dX8_panel_54 : decode cX8_panel 54 = .ok (.ifCond .eq 8, 3) := by decide +kernel
theorem dX8_panel_57 : decode cX8_panel 57 = .ok (.bipush 116, 2) := by decide +kernel
theorem dX8_panel_59 : decode cX8_panel 59 = .ok (.goto 5, 3) := by decide +kernel
theorem dX8_panel_62 : decode cX8_panel 62 = .ok (.bipush 109, 2) := by decide +kernel
theorem dX8_panel_64 : decode cX8_panel 64 = .ok (.invokevirtual 309, 3) := by decide +kernel
theorem dX8_panel_67 : decode cX8_panel 67 = .ok (.aload_n 0, 1) := by decide +kernel
theorem dX8_panel_68 : decode cX8_panel 68 = .ok (.getfield 20, 3) := by decide +kernel
theorem dX8_panel_71 : decode cX8_panel 71 = .ok (.getfield 173, 3) := by decide +kernel
theorem dX8_panel_74 : decode cX8_panel 74 = .ok (.getfield 325, 3) := by decide +kernel
theorem dX8_panel_77 : decode cX8_panel 77 = .ok (.iload_n 1, 1) := by decide +kernel
theorem dX8_panel_78 : decode cX8_panel 78 = .ok (.iaload, 1) := by decide +kernel
theorem dX8_panel_79 : decode cX8_panel 79 = .ok (.invokevirtual 305, 3) := by decide +kernel
theorem dX8_panel_82 : decode cX8_panel 82 = .ok (.pop, 1) := by decide +kernel
theorem dX8_panel_83 : decode cX8_panel 83 = .ok (.iinc 1 1, 3) := by decide +kernel
theorem dX8_panel_86 : decode cX8_panel 86 = .ok (.goto (-76), 3) := by decide +kernel
theorem dX8_panel_89 : decode cX8_panel 89 = .ok (.aload_n 0, 1) := by decide +kernel
theorem dX8_panel_90 : decode cX8_panel 90 = .ok (.getfield 59, 3) := by decide +kernel
theorem dX8_panel_93 : decode cX8_panel 93 = .ok (.invokevirtual 316, 3) := by decide +kernel
theorem dX8_panel_96 : decode cX8_panel 96 = .ok (.ireturn, 1) := by decide +kernel
theorem dX8_character_0 : decode cX8_character 0 = .ok (.iload_n 1, 1) := by decide +kernel
theorem dX8_character_1 : decode cX8_character 1 = .ok (.iconst 0, 1) := by decide +kernel
theorem dX8_character_2 : decode cX8_character 2 = .ok (.aload_n 0, 1) := by decide +kernel
theorem dX8_character_3 : decode cX8_character 3 = .ok (.getfield 59, 3) := by decide +kernel
theorem dX8_character_6 : decode cX8_character 6 = .ok (.invokevirtual 316, 3) := by decide +kernel
theorem dX8_character_9 : decode cX8_character 9 = .ok (.iconst 1, 1) := by decide +kernel
theorem dX8_character_10 : decode cX8_character 10 = .ok (.isub, 1) := by decide +kernel
theorem dX8_character_11 : decode cX8_character 11 = .ok (.invokestatic 108, 3) := by decide +kernel
theorem dX8_character_14 : decode cX8_character 14 = .ok (.ifCond .eq 11, 3) := by decide +kernel
theorem dX8_character_17 : decode cX8_character 17 = .ok (.new 112, 3) := by decide +kernel
theorem dX8_character_20 : decode cX8_character 20 = .ok (.dup, 1) := by decide +kernel
theorem dX8_character_21 : decode cX8_character 21 = .ok (.invokespecial 114, 3) := by decide +kernel
theorem dX8_character_24 : decode cX8_character 24 = .ok (.athrow, 1) := by decide +kernel
theorem dX8_character_25 : decode cX8_character 25 = .ok (.aload_n 0, 1) := by decide +kernel
theorem dX8_character_26 : decode cX8_character 26 = .ok (.getfield 59, 3) := by decide +kernel
theorem dX8_character_29 : decode cX8_character 29 = .ok (.iload_n 1, 1) := by decide +kernel
theorem dX8_character_30 : decode cX8_character 30 = .ok (.invokevirtual 328, 3) := by decide +kernel
theorem dX8_character_33 : decode cX8_character 33 = .ok (.ireturn, 1) := by decide +kernel
theorem dX8_meanNote_0 : decode cX8_meanNote 0 = .ok (.iconst 0, 1) := by decide +kernel
theorem dX8_meanNote_1 : decode cX8_meanNote 1 = .ok (.istore_n 1, 1) := by decide +kernel
theorem dX8_meanNote_2 : decode cX8_meanNote 2 = .ok (.iconst 0, 1) := by decide +kernel
theorem dX8_meanNote_3 : decode cX8_meanNote 3 = .ok (.istore_n 2, 1) := by decide +kernel
theorem dX8_meanNote_4 : decode cX8_meanNote 4 = .ok (.iconst 0, 1) := by decide +kernel
theorem dX8_meanNote_5 : decode cX8_meanNote 5 = .ok (.istore_n 3, 1) := by decide +kernel
theorem dX8_meanNote_6 : decode cX8_meanNote 6 = .ok (.iload_n 3, 1) := by decide +kernel
theorem dX8_meanNote_7 : decode cX8_meanNote 7 = .ok (.aload_n 0, 1) := by decide +kernel
theorem dX8_meanNote_8 : decode cX8_meanNote 8 = .ok (.getfield 20, 3) := by decide +kernel
theorem dX8_meanNote_11 : decode cX8_meanNote 11 = .ok (.getfield 237, 3) := by decide +kernel
theorem dX8_meanNote_14 : decode cX8_meanNote 14 = .ok (.if_icmp .ge 51, 3) := by decide +kernel
theorem dX8_meanNote_17 : decode cX8_meanNote 17 = .ok (.iload_n 1, 1) := by decide +kernel
theorem dX8_meanNote_18 : decode cX8_meanNote 18 = .ok (.aload_n 0, 1) := by decide +kernel
theorem dX8_meanNote_19 : decode cX8_meanNote 19 = .ok (.getfield 20, 3) := by decide +kernel
theorem dX8_meanNote_22 : decode cX8_meanNote 22 = .ok (.aload_n 0, 1) := by decide +kernel
theorem dX8_meanNote_23 : decode cX8_meanNote 23 = .ok (.getfield 20, 3) := by decide +kernel
theorem dX8_meanNote_26 : decode cX8_meanNote 26 = .ok (.getfield 332, 3) := by decide +kernel
theorem dX8_meanNote_29 : decode cX8_meanNote 29 = .ok (.iload_n 3, 1) := by decide +kernel
theorem dX8_meanNote_30 : decode cX8_meanNote 30 = .ok (.aaload, 1) := by decide +kernel
theorem dX8_meanNote_31 : decode cX8_meanNote 31 = .ok (.invokevirtual 163, 3) := by decide +kernel
theorem dX8_meanNote_34 : decode cX8_meanNote 34 = .ok (.iadd, 1) := by decide +kernel
theorem dX8_meanNote_35 : decode cX8_meanNote 35 = .ok (.istore_n 1, 1) := by decide +kernel
theorem dX8_meanNote_36 : decode cX8_meanNote 36 = .ok (.iload_n 2, 1) := by decide +kernel
theorem dX8_meanNote_37 : decode cX8_meanNote 37 = .ok (.aload_n 0, 1) := by decide +kernel
theorem dX8_meanNote_38 : decode cX8_meanNote 38 = .ok (.getfield 20, 3) := by decide +kernel
theorem dX8_meanNote_41 : decode cX8_meanNote 41 = .ok (.getfield 332, 3) := by decide +kernel
theorem dX8_meanNote_44 : decode cX8_meanNote 44 = .ok (.iload_n 3, 1) := by decide +kernel
theorem dX8_meanNote_45 : decode cX8_meanNote 45 = .ok (.aaload, 1) := by decide +kernel
theorem dX8_meanNote_46 : decode cX8_meanNote 46 = .ok (.invokevirtual 312, 3) := by decide +kernel
theorem dX8_meanNote_49 : decode cX8_meanNote 49 = .ok (.ifCond .eq 7, 3) := by decide +kernel
theorem dX8_meanNote_52 : decode cX8_meanNote 52 = .ok (.iconst 0, 1) := by decide +kernel
theorem dX8_meanNote_53 : decode cX8_meanNote 53 = .ok (.goto 4, 3) := by decide +kernel
theorem dX8_meanNote_56 : decode cX8_meanNote 56 = .ok (.iconst 1, 1) := by decide +kernel
theorem dX8_meanNote_57 : decode cX8_meanNote 57 = .ok (.iadd, 1) := by decide +kernel
theorem dX8_meanNote_58 : decode cX8_meanNote 58 = .ok (.istore_n 2, 1) := by decide +kernel
theorem dX8_meanNote_59 : decode cX8_meanNote 59 = .ok (.iinc 3 1, 3) := by decide +kernel
theorem dX8_meanNote_62 : decode cX8_meanNote 62 = .ok (.goto (-56), 3) := by decide +kernel
theorem dX8_meanNote_65 : decode cX8_meanNote 65 = .ok (.iload_n 2, 1) := by decide +kernel
theorem dX8_meanNote_66 : decode cX8_meanNote 66 = .ok (.ifCond .ne 11, 3) := by decide +kernel
theorem dX8_meanNote_69 : decode cX8_meanNote 69 = .ok (.new 336, 3) := by decide +kernel
theorem dX8_meanNote_72 : decode cX8_meanNote 72 = .ok (.dup, 1) := by decide +kernel
theorem dX8_meanNote_73 : decode cX8_meanNote 73 = .ok (.invokespecial 338, 3) := by decide +kernel
theorem dX8_meanNote_76 : decode cX8_meanNote 76 = .ok (.athrow, 1) := by decide +kernel
theorem dX8_meanNote_77 : decode cX8_meanNote 77 = .ok (.iload_n 1, 1) := by decide +kernel
theorem dX8_meanNote_78 : decode cX8_meanNote 78 = .ok (.i2d, 1) := by decide +kernel
theorem dX8_meanNote_79 : decode cX8_meanNote 79 = .ok (.iload_n 2, 1) := by decide +kernel
theorem dX8_meanNote_80 : decode cX8_meanNote 80 = .ok (.i2d, 1) := by decide +kernel
theorem dX8_meanNote_81 : decode cX8_meanNote 81 = .ok (.ddiv, 1) := by decide +kernel
theorem dX8_meanNote_82 : decode cX8_meanNote 82 = .ok (.dreturn, 1) := by decide +kernel
theorem dX8_hailShare_0 : decode cX8_hailShare 0 = .ok (.aload_n 0, 1) := by decide +kernel
theorem dX8_hailShare_1 : decode cX8_hailShare 1 = .ok (.getfield 20, 3) := by decide +kernel
theorem dX8_hailShare_4 : decode cX8_hailShare 4 = .ok (.invokevirtual 249, 3) := by decide +kernel
theorem dX8_hailShare_7 : decode cX8_hailShare 7 = .ok (.istore_n 1, 1) := by decide +kernel
theorem dX8_hailShare_8 : decode cX8_hailShare 8 = .ok (.iload_n 1, 1) := by decide +kernel
theorem dX8_hailShare_9 : decode cX8_hailShare 9 = .ok (.ifCond .ne 11, 3) := by decide +kernel
theorem dX8_hailShare_12 : decode cX8_hailShare 12 = .ok (.new 336, 3) := by decide +kernel
theorem dX8_hailShare_15 : decode cX8_hailShare 15 = .ok (.dup, 1) := by decide +kernel
theorem dX8_hailShare_16 : decode cX8_hailShare 16 = .ok (.invokespecial 338, 3) := by decide +kernel
theorem dX8_hailShare_19 : decode cX8_hailShare 19 = .ok (.athrow, 1) := by decide +kernel
theorem dX8_hailShare_20 : decode cX8_hailShare 20 = .ok (.aload_n 0, 1) := by decide +kernel
theorem dX8_hailShare_21 : decode cX8_hailShare 21 = .ok (.getfield 20, 3) := by decide +kernel
theorem dX8_hailShare_24 : decode cX8_hailShare 24 = .ok (.invokevirtual 339, 3) := by decide +kernel
theorem dX8_hailShare_27 : decode cX8_hailShare 27 = .ok (.i2f, 1) := by decide +kernel
theorem dX8_hailShare_28 : decode cX8_hailShare 28 = .ok (.iload_n 1, 1) := by decide +kernel
theorem dX8_hailShare_29 : decode cX8_hailShare 29 = .ok (.i2f, 1) := by decide +kernel
theorem dX8_hailShare_30 : decode cX8_hailShare 30 = .ok (.fdiv, 1) := by decide +kernel
theorem dX8_hailShare_31 : decode cX8_hailShare 31 = .ok (.freturn, 1) := by decide +kernel
theorem dX8_account_0 : decode cX8_account 0 = .ok (.iload_n 1, 1) := by decide +kernel
theorem dX8_account_1 : decode cX8_account 1 = .ok (.tableswitch 162 0 11 #[63, 71, 79, 87, 98, 106, 114, 122, 130, 138, 146, 154], 63) := by decide +kernel
theorem dX8_account_64 : decode cX8_account 64 = .ok (.aload_n 0, 1) := by decide +kernel
theorem dX8_account_65 : decode cX8_account 65 = .ok (.getfield 20, 3) := by decide +kernel
theorem dX8_account_68 : decode cX8_account 68 = .ok (.getfield 237, 3) := by decide +kernel
theorem dX8_account_71 : decode cX8_account 71 = .ok (.ireturn, 1) := by decide +kernel
theorem dX8_account_72 : decode cX8_account 72 = .ok (.aload_n 0, 1) := by decide +kernel
theorem dX8_account_73 : decode cX8_account 73 = .ok (.getfield 20, 3) := by decide +kernel
theorem dX8_account_76 : decode cX8_account 76 = .ok (.invokevirtual 249, 3) := by decide +kernel
theorem dX8_account_79 : decode cX8_account 79 = .ok (.ireturn, 1) := by decide +kernel
theorem dX8_account_80 : decode cX8_account 80 = .ok (.aload_n 0, 1) := by decide +kernel
theorem dX8_account_81 : decode cX8_account 81 = .ok (.getfield 20, 3) := by decide +kernel
theorem dX8_account_84 : decode cX8_account 84 = .ok (.getfield 342, 3) := by decide +kernel
theorem dX8_account_87 : decode cX8_account 87 = .ok (.ireturn, 1) := by decide +kernel
theorem dX8_account_88 : decode cX8_account 88 = .ok (.aload_n 0, 1) := by decide +kernel
theorem dX8_account_89 : decode cX8_account 89 = .ok (.getfield 20, 3) := by decide +kernel
theorem dX8_account_92 : decode cX8_account 92 = .ok (.getfield 173, 3) := by decide +kernel
theorem dX8_account_95 : decode cX8_account 95 = .ok (.getfield 318, 3) := by decide +kernel
theorem dX8_account_98 : decode cX8_account 98 = .ok (.ireturn, 1) := by decide +kernel
theorem dX8_account_99 : decode cX8_account 99 = .ok (.aload_n 0, 1) := by decide +kernel
theorem dX8_account_100 : decode cX8_account 100 = .ok (.getfield 20, 3) := by decide +kernel
theorem dX8_account_103 : decode cX8_account 103 = .ok (.getfield 151, 3) := by decide +kernel
theorem dX8_account_106 : decode cX8_account 106 = .ok (.ireturn, 1) := by decide +kernel
theorem dX8_account_107 : decode cX8_account 107 = .ok (.aload_n 0, 1) := by decide +kernel
theorem dX8_account_108 : decode cX8_account 108 = .ok (.getfield 20, 3) := by decide +kernel
theorem dX8_account_111 : decode cX8_account 111 = .ok (.getfield 208, 3) := by decide +kernel
theorem dX8_account_114 : decode cX8_account 114 = .ok (.ireturn, 1) := by decide +kernel
theorem dX8_account_115 : decode cX8_account 115 = .ok (.aload_n 0, 1) := by decide +kernel
theorem dX8_account_116 : decode cX8_account 116 = .ok (.getfield 20, 3) := by decide +kernel
theorem dX8_account_119 : decode cX8_account 119 = .ok (.getfield 345, 3) := by decide +kernel
theorem dX8_account_122 : decode cX8_account 122 = .ok (.ireturn, 1) := by decide +kernel
theorem dX8_account_123 : decode cX8_account 123 = .ok (.aload_n 0, 1) := by decide +kernel
theorem dX8_account_124 : decode cX8_account 124 = .ok (.getfield 20, 3) := by decide +kernel
theorem dX8_account_127 : decode cX8_account 127 = .ok (.getfield 252, 3) := by decide +kernel
theorem dX8_account_130 : decode cX8_account 130 = .ok (.ireturn, 1) := by decide +kernel
theorem dX8_account_131 : decode cX8_account 131 = .ok (.aload_n 0, 1) := by decide +kernel
theorem dX8_account_132 : decode cX8_account 132 = .ok (.getfield 20, 3) := by decide +kernel
theorem dX8_account_135 : decode cX8_account 135 = .ok (.getfield 255, 3) := by decide +kernel
theorem dX8_account_138 : decode cX8_account 138 = .ok (.ireturn, 1) := by decide +kernel
theorem dX8_account_139 : decode cX8_account 139 = .ok (.aload_n 0, 1) := by decide +kernel
theorem dX8_account_140 : decode cX8_account 140 = .ok (.getfield 20, 3) := by decide +kernel
theorem dX8_account_143 : decode cX8_account 143 = .ok (.getfield 348, 3) := by decide +kernel
theorem dX8_account_146 : decode cX8_account 146 = .ok (.ireturn, 1) := by decide +kernel
theorem dX8_account_147 : decode cX8_account 147 = .ok (.aload_n 0, 1) := by decide +kernel
theorem dX8_account_148 : decode cX8_account 148 = .ok (.getfield 41, 3) := by decide +kernel
theorem dX8_account_151 : decode cX8_account 151 = .ok (.getfield 351, 3) := by decide +kernel
theorem dX8_account_154 : decode cX8_account 154 = .ok (.ireturn, 1) := by decide +kernel
theorem dX8_account_155 : decode cX8_account 155 = .ok (.aload_n 0, 1) := by decide +kernel
theorem dX8_account_156 : decode cX8_account 156 = .ok (.getfield 48, 3) := by decide +kernel
theorem dX8_account_159 : decode cX8_account 159 = .ok (.getfield 258, 3) := by decide +kernel
theorem dX8_account_162 : decode cX8_account 162 = .ok (.ireturn, 1) := by decide +kernel
theorem dX8_account_163 : decode cX8_account 163 = .ok (.new 128, 3) := by decide +kernel
theorem dX8_account_166 : decode cX8_account 166 = .ok (.dup, 1) := by decide +kernel
theorem dX8_account_167 : decode cX8_account 167 = .ok (.invokespecial 130, 3) := by decide +kernel
theorem dX8_account_170 : decode cX8_account 170 = .ok (.athrow, 1) := by decide +kernel
theorem dX8_undo_0 : decode cX8_undo 0 = .ok (.aload_n 0, 1) := by decide +kernel
theorem dX8_undo_1 : decode cX8_undo 1 = .ok (.getfield 41, 3) := by decide +kernel
theorem dX8_undo_4 : decode cX8_undo 4 = .ok (.getfield 351, 3) := by decide +kernel
theorem dX8_undo_7 : decode cX8_undo 7 = .ok (.ifCond .ne 11, 3) := by decide +kernel
theorem dX8_undo_10 : decode cX8_undo 10 = .ok (.new 261, 3) := by decide +kernel
theorem dX8_undo_13 : decode cX8_undo 13 = .ok (.dup, 1) := by decide +kernel
theorem dX8_undo_14 : decode cX8_undo 14 = .ok (.invokespecial 263, 3) := by decide +kernel
theorem dX8_undo_17 : decode cX8_undo 17 = .ok (.athrow, 1) := by decide +kernel
theorem dX8_undo_18 : decode cX8_undo 18 = .ok (.aload_n 0, 1) := by decide +kernel
theorem dX8_undo_19 : decode cX8_undo 19 = .ok (.getfield 20, 3) := by decide +kernel
theorem dX8_undo_22 : decode cX8_undo 22 = .ok (.aload_n 0, 1) := by decide +kernel
theorem dX8_undo_23 : decode cX8_undo 23 = .ok (.getfield 41, 3) := by decide +kernel
theorem dX8_undo_26 : decode cX8_undo 26 = .ok (.invokevirtual 352, 3) := by decide +kernel
theorem dX8_undo_29 : decode cX8_undo 29 = .ok (.invokevirtual 284, 3) := by decide +kernel
theorem dX8_undo_32 : decode cX8_undo 32 = .ok (.aload_n 0, 1) := by decide +kernel
theorem dX8_undo_33 : decode cX8_undo 33 = .ok (.getfield 41, 3) := by decide +kernel
theorem dX8_undo_36 : decode cX8_undo 36 = .ok (.getfield 351, 3) := by decide +kernel
theorem dX8_undo_39 : decode cX8_undo 39 = .ok (.ireturn, 1) := by decide +kernel
theorem dX8_save_0 : decode cX8_save 0 = .ok (.aload_n 0, 1) := by decide +kernel
theorem dX8_save_1 : decode cX8_save 1 = .ok (.getfield 31, 3) := by decide +kernel
theorem dX8_save_4 : decode cX8_save 4 = .ok (.aload_n 0, 1) := by decide +kernel
theorem dX8_save_5 : decode cX8_save 5 = .ok (.getfield 20, 3) := by decide +kernel
theorem dX8_save_8 : decode cX8_save 8 = .ok (.invokevirtual 284, 3) := by decide +kernel
theorem dX8_save_11 : decode cX8_save 11 = .ok (.aload_n 0, 1) := by decide +kernel
theorem dX8_save_12 : decode cX8_save 12 = .ok (.iconst 1, 1) := by decide +kernel
theorem dX8_save_13 : decode cX8_save 13 = .ok (.putfield 34, 3) := by decide +kernel
theorem dX8_save_16 : decode cX8_save 16 = .ok (.aload_n 0, 1) := by decide +kernel
theorem dX8_save_17 : decode cX8_save 17 = .ok (.getfield 20, 3) := by decide +kernel
theorem dX8_save_20 : decode cX8_save 20 = .ok (.getfield 237, 3) := by decide +kernel
theorem dX8_save_23 : decode cX8_save 23 = .ok (.ireturn, 1) := by decide +kernel
theorem dX8_restore_0 : decode cX8_restore 0 = .ok (.aload_n 0, 1) := by decide +kernel
theorem dX8_restore_1 : decode cX8_restore 1 = .ok (.getfield 34, 3) := by decide +kernel
theorem dX8_restore_4 : decode cX8_restore 4 = .ok (.ifCond .ne 11, 3) := by decide +kernel
theorem dX8_restore_7 : decode cX8_restore 7 = .ok (.new 261, 3) := by decide +kernel
theorem dX8_restore_10 : decode cX8_restore 10 = .ok (.dup, 1) := by decide +kernel
theorem dX8_restore_11 : decode cX8_restore 11 = .ok (.invokespecial 263, 3) := by decide +kernel
theorem dX8_restore_14 : decode cX8_restore 14 = .ok (.athrow, 1) := by decide +kernel
theorem dX8_restore_15 : decode cX8_restore 15 = .ok (.aload_n 0, 1) := by decide +kernel
theorem dX8_restore_16 : decode cX8_restore 16 = .ok (.getfield 20, 3) := by decide +kernel
theorem dX8_restore_19 : decode cX8_restore 19 = .ok (.aload_n 0, 1) := by decide +kernel
theorem dX8_restore_20 : decode cX8_restore 20 = .ok (.getfield 31, 3) := by decide +kernel
theorem dX8_restore_23 : decode cX8_restore 23 = .ok (.invokevirtual 284, 3) := by decide +kernel
theorem dX8_restore_26 : decode cX8_restore 26 = .ok (.aload_n 0, 1) := by decide +kernel
theorem dX8_restore_27 : decode cX8_restore 27 = .ok (.getfield 41, 3) := by decide +kernel
theorem dX8_restore_30 : decode cX8_restore 30 = .ok (.invokevirtual 355, 3) := by decide +kernel
theorem dX8_restore_33 : decode cX8_restore 33 = .ok (.aload_n 0, 1) := by decide +kernel
theorem dX8_restore_34 : decode cX8_restore 34 = .ok (.getfield 20, 3) := by decide +kernel
theorem dX8_restore_37 : decode cX8_restore 37 = .ok (.getfield 237, 3) := by decide +kernel
theorem dX8_restore_40 : decode cX8_restore 40 = .ok (.ireturn, 1) := by decide +kernel
theorem dX8_kept_0 : decode cX8_kept 0 = .ok (.iload_n 1, 1) := by decide +kernel
theorem dX8_kept_1 : decode cX8_kept 1 = .ok (.iconst (-1), 1) := by decide +kernel
theorem dX8_kept_2 : decode cX8_kept 2 = .ok (.if_icmp .ne 11, 3) := by decide +kernel
theorem dX8_kept_5 : decode cX8_kept 5 = .ok (.new 292, 3) := by decide +kernel
theorem dX8_kept_8 : decode cX8_kept 8 = .ok (.dup, 1) := by decide +kernel
theorem dX8_kept_9 : decode cX8_kept 9 = .ok (.invokespecial 294, 3) := by decide +kernel
theorem dX8_kept_12 : decode cX8_kept 12 = .ok (.athrow, 1) := by decide +kernel
theorem dX8_kept_13 : decode cX8_kept 13 = .ok (.aload_n 0, 1) := by decide +kernel
theorem dX8_kept_14 : decode cX8_kept 14 = .ok (.getfield 41, 3) := by decide +kernel
theorem dX8_kept_17 : decode cX8_kept 17 = .ok (.invokevirtual 105, 3) := by decide +kernel
theorem dX8_kept_20 : decode cX8_kept 20 = .ok (.iload_n 1, 1) := by decide +kernel
theorem dX8_kept_21 : decode cX8_kept 21 = .ok (.ireturn, 1) := by decide +kernel
theorem dX8_existing_0 : decode cX8_existing 0 = .ok (.aload_n 0, 1) := by decide +kernel
theorem dX8_existing_1 : decode cX8_existing 1 = .ok (.getfield 20, 3) := by decide +kernel
theorem dX8_existing_4 : decode cX8_existing 4 = .ok (.iload_n 1, 1) := by decide +kernel
theorem dX8_existing_5 : decode cX8_existing 5 = .ok (.invokevirtual 358, 3) := by decide +kernel
theorem dX8_existing_8 : decode cX8_existing 8 = .ok (.ifCond .ne 11, 3) := by decide +kernel
theorem dX8_existing_11 : decode cX8_existing 11 = .ok (.new 112, 3) := by decide +kernel
theorem dX8_existing_14 : decode cX8_existing 14 = .ok (.dup, 1) := by decide +kernel
theorem dX8_existing_15 : decode cX8_existing 15 = .ok (.invokespecial 114, 3) := by decide +kernel
theorem dX8_existing_18 : decode cX8_existing 18 = .ok (.athrow, 1) := by decide +kernel
theorem dX8_existing_19 : decode cX8_existing 19 = .ok (.aload_n 0, 1) := by decide +kernel
theorem dX8_existing_20 : decode cX8_existing 20 = .ok (.getfield 20, 3) := by decide +kernel
theorem dX8_existing_23 : decode cX8_existing 23 = .ok (.getfield 332, 3) := by decide +kernel
theorem dX8_existing_26 : decode cX8_existing 26 = .ok (.iload_n 1, 1) := by decide +kernel
theorem dX8_existing_27 : decode cX8_existing 27 = .ok (.aaload, 1) := by decide +kernel
theorem dX8_existing_28 : decode cX8_existing 28 = .ok (.areturn, 1) := by decide +kernel
theorem dX8_filled_0 : decode cX8_filled 0 = .ok (.aload_n 0, 1) := by decide +kernel
theorem dX8_filled_1 : decode cX8_filled 1 = .ok (.iload_n 1, 1) := by decide +kernel
theorem dX8_filled_2 : decode cX8_filled 2 = .ok (.invokevirtual 131, 3) := by decide +kernel
theorem dX8_filled_5 : decode cX8_filled 5 = .ok (.astore_n 2, 1) := by decide +kernel
theorem dX8_filled_6 : decode cX8_filled 6 = .ok (.aload_n 2, 1) := by decide +kernel
theorem dX8_filled_7 : decode cX8_filled 7 = .ok (.invokevirtual 312, 3) := by decide +kernel
theorem dX8_filled_10 : decode cX8_filled 10 = .ok (.ifCond .eq 11, 3) := by decide +kernel
theorem dX8_filled_13 : decode cX8_filled 13 = .ok (.new 211, 3) := by decide +kernel
theorem dX8_filled_16 : decode cX8_filled 16 = .ok (.dup, 1) := by decide +kernel
theorem dX8_filled_17 : decode cX8_filled 17 = .ok (.invokespecial 213, 3) := by decide +kernel
theorem dX8_filled_20 : decode cX8_filled 20 = .ok (.athrow, 1) := by decide +kernel
theorem dX8_filled_21 : decode cX8_filled 21 = .ok (.aload_n 2, 1) := by decide +kernel
theorem dX8_filled_22 : decode cX8_filled 22 = .ok (.areturn, 1) := by decide +kernel
theorem dX8_unnoticed_0 : decode cX8_unnoticed 0 = .ok (.aload_n 0, 1) := by decide +kernel
theorem dX8_unnoticed_1 : decode cX8_unnoticed 1 = .ok (.iload_n 1, 1) := by decide +kernel
theorem dX8_unnoticed_2 : decode cX8_unnoticed 2 = .ok (.invokevirtual 160, 3) := by decide +kernel
theorem dX8_unnoticed_5 : decode cX8_unnoticed 5 = .ok (.astore_n 2, 1) := by decide +kernel
theorem dX8_unnoticed_6 : decode cX8_unnoticed 6 = .ok (.aload_n 0, 1) := by decide +kernel
theorem dX8_unnoticed_7 : decode cX8_unnoticed 7 = .ok (.getfield 20, 3) := by decide +kernel
theorem dX8_unnoticed_10 : decode cX8_unnoticed 10 = .ok (.getfield 173, 3) := by decide +kernel
theorem dX8_unnoticed_13 : decode cX8_unnoticed 13 = .ok (.aload_n 2, 1) := by decide +kernel
theorem dX8_unnoticed_14 : decode cX8_unnoticed 14 = .ok (.invokevirtual 157, 3) := by decide +kernel
theorem dX8_unnoticed_17 : decode cX8_unnoticed 17 = .ok (.invokevirtual 187, 3) := by decide +kernel
theorem dX8_unnoticed_20 : decode cX8_unnoticed 20 = .ok (.ifCond .eq 11, 3) := by decide +kernel
theorem dX8_unnoticed_23 : decode cX8_unnoticed 23 = .ok (.new 211, 3) := by decide +kernel
theorem dX8_unnoticed_26 : decode cX8_unnoticed 26 = .ok (.dup, 1) := by decide +kernel
theorem dX8_unnoticed_27 : decode cX8_unnoticed 27 = .ok (.invokespecial 213, 3) := by decide +kernel
theorem dX8_unnoticed_30 : decode cX8_unnoticed 30 = .ok (.athrow, 1) := by decide +kernel
theorem dX8_unnoticed_31 : decode cX8_unnoticed 31 = .ok (.aload_n 2, 1) := by decide +kernel
theorem dX8_unnoticed_32 : decode cX8_unnoticed 32 = .ok (.areturn, 1) := by decide +kernel
theorem dX8_carryOut_0 : decode cX8_carryOut 0 = .ok (.aload_n 0, 1) := by decide +kernel
theorem dX8_carryOut_1 : decode cX8_carryOut 1 = .ok (.getfield 48, 3) := by decide +kernel
theorem dX8_carryOut_4 : decode cX8_carryOut 4 = .ok (.iload_n 1, 1) := by decide +kernel
theorem dX8_carryOut_5 : decode cX8_carryOut 5 = .ok (.iconst 0, 1) := by decide +kernel
theorem dX8_carryOut_6 : decode cX8_carryOut 6 = .ok (.invokevirtual 361, 3) := by decide +kernel
theorem dX8_carryOut_9 : decode cX8_carryOut 9 = .ok (.istore_n 2, 1) := by decide +kernel
theorem dX8_carryOut_10 : decode cX8_carryOut 10 = .ok (.aload_n 0, 1) := by decide +kernel
theorem dX8_carryOut_11 : decode cX8_carryOut 11 = .ok (.getfield 48, 3) := by decide +kernel
theorem dX8_carryOut_14 : decode cX8_carryOut 14 = .ok (.iload_n 1, 1) := by decide +kernel
theorem dX8_carryOut_15 : decode cX8_carryOut 15 = .ok (.iconst 1, 1) := by decide +kernel
theorem dX8_carryOut_16 : decode cX8_carryOut 16 = .ok (.invokevirtual 361, 3) := by decide +kernel
theorem dX8_carryOut_19 : decode cX8_carryOut 19 = .ok (.istore_n 3, 1) := by decide +kernel
theorem dX8_carryOut_20 : decode cX8_carryOut 20 = .ok (.aload_n 0, 1) := by decide +kernel
theorem dX8_carryOut_21 : decode cX8_carryOut 21 = .ok (.getfield 48, 3) := by decide +kernel
theorem dX8_carryOut_24 : decode cX8_carryOut 24 = .ok (.getfield 364, 3) := by decide +kernel
theorem dX8_carryOut_27 : decode cX8_carryOut 27 = .ok (.iload_n 1, 1) := by decide +kernel
theorem dX8_carryOut_28 : decode cX8_carryOut 28 = .ok (.caload, 1) := by decide +kernel
theorem dX8_carryOut_29 : decode cX8_carryOut 29 = .ok (.tableswitch 211 98 120 #[117, 202, 211, 211, 211, 193, 154, 211, 211, 211, 184, 164, 211, 211, 135, 211, 211, 107, 174, 211, 211, 211, 126], 107) := by decide +kernel
theorem dX8_carryOut_136 : decode cX8_carryOut 136 = .ok (.aload_n 0, 1) := by decide +kernel
theorem dX8_carryOut_137 : decode cX8_carryOut 137 = .ok (.getfield 10, 3) := by decide +kernel
theorem dX8_carryOut_140 : decode cX8_carryOut 140 = .ok (.iload_n 2, 1) := by decide +kernel
theorem dX8_carryOut_141 : decode cX8_carryOut 141 = .ok (.iload_n 3, 1) := by decide +kernel
theorem dX8_carryOut_142 : decode cX8_carryOut 142 = .ok (.invokevirtual 67, 3) := by decide +kernel
theorem dX8_carryOut_145 : decode cX8_carryOut 145 = .ok (.ireturn, 1) := by decide +kernel
theorem dX8_carryOut_146 : decode cX8_carryOut 146 = .ok (.aload_n 0, 1) := by decide +kernel
theorem dX8_carryOut_147 : decode cX8_carryOut 147 = .ok (.getfield 10, 3) := by decide +kernel
theorem dX8_carryOut_150 : decode cX8_carryOut 150 = .ok (.iload_n 2, 1) := by decide +kernel
theorem dX8_carryOut_151 : decode cX8_carryOut 151 = .ok (.invokevirtual 75, 3) := by decide +kernel
theorem dX8_carryOut_154 : decode cX8_carryOut 154 = .ok (.ireturn, 1) := by decide +kernel
theorem dX8_carryOut_155 : decode cX8_carryOut 155 = .ok (.aload_n 0, 1) := by decide +kernel
theorem dX8_carryOut_156 : decode cX8_carryOut 156 = .ok (.getfield 10, 3) := by decide +kernel
theorem dX8_carryOut_159 : decode cX8_carryOut 159 = .ok (.iload_n 2, 1) := by decide +kernel
theorem dX8_carryOut_160 : decode cX8_carryOut 160 = .ok (.invokevirtual 78, 3) := by decide +kernel
theorem dX8_carryOut_163 : decode cX8_carryOut 163 = .ok (.ireturn, 1) := by decide +kernel
theorem dX8_carryOut_164 : decode cX8_carryOut 164 = .ok (.aload_n 0, 1) := by decide +kernel
theorem dX8_carryOut_165 : decode cX8_carryOut 165 = .ok (.getfield 10, 3) := by decide +kernel
theorem dX8_carryOut_168 : decode cX8_carryOut 168 = .ok (.iload_n 2, 1) := by decide +kernel
theorem dX8_carryOut_169 : decode cX8_carryOut 169 = .ok (.iload_n 3, 1) := by decide +kernel
theorem dX8_carryOut_170 : decode cX8_carryOut 170 = .ok (.aload_n 0, 1) := by decide +kernel
theorem dX8_carryOut_171 : decode cX8_carryOut 171 = .ok (.getfield 48, 3) := by decide +kernel
theorem dX8_carryOut_174 : decode cX8_carryOut 174 = .ok (.iload_n 1, 1) := by decide +kernel
theorem dX8_carryOut_175 : decode cX8_carryOut 175 = .ok (.iconst 2, 1) := by decide +kernel
theorem dX8_carryOut_176 : decode cX8_carryOut 176 = .ok (.invokevirtual 361, 3) := by decide +kernel
theorem dX8_carryOut_179 : decode cX8_carryOut 179 = .ok (.invokevirtual 81, 3) := by decide +kernel
theorem dX8_carryOut_182 : decode cX8_carryOut 182 = .ok (.ireturn, 1) := by decide +kernel
theorem dX8_carryOut_183 : decode cX8_carryOut 183 = .ok (.aload_n 0, 1) := by decide +kernel
theorem dX8_carryOut_184 : decode cX8_carryOut 184 = .ok (.getfield 10, 3) := by decide +kernel
theorem dX8_carryOut_187 : decode cX8_carryOut 187 = .ok (.iload_n 2, 1) := by decide +kernel
theorem dX8_carryOut_188 : decode cX8_carryOut 188 = .ok (.iload_n 3, 1) := by decide +kernel
theorem dX8_carryOut_189 : decode cX8_carryOut 189 = .ok (.invokevirtual 85, 3) := by decide +kernel
theorem dX8_carryOut_192 : decode cX8_carryOut 192 = .ok (.ireturn, 1) := by decide +kernel
theorem dX8_carryOut_193 : decode cX8_carryOut 193 = .ok (.aload_n 0, 1) := by decide +kernel
theorem dX8_carryOut_194 : decode cX8_carryOut 194 = .ok (.getfield 10, 3) := by decide +kernel
theorem dX8_carryOut_197 : decode cX8_carryOut 197 = .ok (.iload_n 2, 1) := by decide +kernel
theorem dX8_carryOut_198 : decode cX8_carryOut 198 = .ok (.iconst 0, 1) := by decide +kernel
theorem dX8_carryOut_199 : decode cX8_carryOut 199 = .ok (.invokevirtual 88, 3) := by decide +kernel
theorem dX8_carryOut_202 : decode cX8_carryOut 202 = .ok (.ireturn, 1) := by decide +kernel
theorem dX8_carryOut_203 : decode cX8_carryOut 203 = .ok (.aload_n 0, 1) := by decide +kernel
theorem dX8_carryOut_204 : decode cX8_carryOut 204 = .ok (.getfield 10, 3) := by decide +kernel
theorem dX8_carryOut_207 : decode cX8_carryOut 207 = .ok (.iload_n 2, 1) := by decide +kernel
theorem dX8_carryOut_208 : decode cX8_carryOut 208 = .ok (.iconst 1, 1) := by decide +kernel
theorem dX8_carryOut_209 : decode cX8_carryOut 209 = .ok (.invokevirtual 88, 3) := by decide +kernel
theorem dX8_carryOut_212 : decode cX8_carryOut 212 = .ok (.ireturn, 1) := by decide +kernel
theorem dX8_carryOut_213 : decode cX8_carryOut 213 = .ok (.aload_n 0, 1) := by decide +kernel
theorem dX8_carryOut_214 : decode cX8_carryOut 214 = .ok (.getfield 10, 3) := by decide +kernel
theorem dX8_carryOut_217 : decode cX8_carryOut 217 = .ok (.iload_n 2, 1) := by decide +kernel
theorem dX8_carryOut_218 : decode cX8_carryOut 218 = .ok (.invokevirtual 92, 3) := by decide +kernel
theorem dX8_carryOut_221 : decode cX8_carryOut 221 = .ok (.ireturn, 1) := by decide +kernel
theorem dX8_carryOut_222 : decode cX8_carryOut 222 = .ok (.aload_n 0, 1) := by decide +kernel
theorem dX8_carryOut_223 : decode cX8_carryOut 223 = .ok (.getfield 10, 3) := by decide +kernel
theorem dX8_carryOut_226 : decode cX8_carryOut 226 = .ok (.iload_n 2, 1) := by decide +kernel
theorem dX8_carryOut_227 : decode cX8_carryOut 227 = .ok (.invokevirtual 95, 3) := by decide +kernel
theorem dX8_carryOut_230 : decode cX8_carryOut 230 = .ok (.ireturn, 1) := by decide +kernel
theorem dX8_carryOut_231 : decode cX8_carryOut 231 = .ok (.aload_n 0, 1) := by decide +kernel
theorem dX8_carryOut_232 : decode cX8_carryOut 232 = .ok (.getfield 10, 3) := by decide +kernel
theorem dX8_carryOut_235 : decode cX8_carryOut 235 = .ok (.iload_n 2, 1) := by decide +kernel
theorem dX8_carryOut_236 : decode cX8_carryOut 236 = .ok (.invokevirtual 98, 3) := by decide +kernel
theorem dX8_carryOut_239 : decode cX8_carryOut 239 = .ok (.ireturn, 1) := by decide +kernel
theorem dX8_carryOut_240 : decode cX8_carryOut 240 = .ok (.aload_n 0, 1) := by decide +kernel
theorem dX8_carryOut_241 : decode cX8_carryOut 241 = .ok (.getfield 10, 3) := by decide +kernel
theorem dX8_carryOut_244 : decode cX8_carryOut 244 = .ok (.invokevirtual 101, 3) := by decide +kernel
theorem dX8_carryOut_247 : decode cX8_carryOut 247 = .ok (.ireturn, 1) := by decide +kernel
theorem dX8_isOutside_0 : decode cX8_isOutside 0 = .ok (.iload_n 0, 1) := by decide +kernel
theorem dX8_isOutside_1 : decode cX8_isOutside 1 = .ok (.iload_n 1, 1) := by decide +kernel
theorem dX8_isOutside_2 : decode cX8_isOutside 2 = .ok (.if_icmp .lt 8, 3) := by decide +kernel
theorem dX8_isOutside_5 : decode cX8_isOutside 5 = .ok (.iload_n 0, 1) := by decide +kernel
theorem dX8_isOutside_6 : decode cX8_isOutside 6 = .ok (.iload_n 2, 1) := by decide +kernel
theorem dX8_isOutside_7 : decode cX8_isOutside 7 = .ok (.if_icmp .le 7, 3) := by decide +kernel
theorem dX8_isOutside_10 : decode cX8_isOutside 10 = .ok (.iconst 1, 1) := by decide +kernel
theorem dX8_isOutside_11 : decode cX8_isOutside 11 = .ok (.goto 4, 3) := by decide +kernel
theorem dX8_isOutside_14 : decode cX8_isOutside 14 = .ok (.iconst 0, 1) := by decide +kernel
theorem dX8_isOutside_15 : decode cX8_isOutside 15 = .ok (.ireturn, 1) := by decide +kernel
theorem dX8_litresOnRoof_0 : decode cX8_litresOnRoof 0 = .ok (.iload_n 0, 1) := by decide +kernel
theorem dX8_litresOnRoof_1 : decode cX8_litresOnRoof 1 = .ok (.iconst 1, 1) := by decide +kernel
theorem dX8_litresOnRoof_2 : decode cX8_litresOnRoof 2 = .ok (.iadd, 1) := by decide +kernel
theorem dX8_litresOnRoof_3 : decode cX8_litresOnRoof 3 = .ok (.iload_n 1, 1) := by decide +kernel
theorem dX8_litresOnRoof_4 : decode cX8_litresOnRoof 4 = .ok (.imul, 1) := by decide +kernel
theorem dX8_litresOnRoof_5 : decode cX8_litresOnRoof 5 = .ok (.ireturn, 1) := by decide +kernel
theorem dX8_litresOnRoofs_0 : decode cX8_litresOnRoofs 0 = .ok (.iconst 0, 1) := by decide +kernel
theorem dX8_litresOnRoofs_1 : decode cX8_litresOnRoofs 1 = .ok (.istore_n 1, 1) := by decide +kernel
theorem dX8_litresOnRoofs_2 : decode cX8_litresOnRoofs 2 = .ok (.iconst 0, 1) := by decide +kernel
theorem dX8_litresOnRoofs_3 : decode cX8_litresOnRoofs 3 = .ok (.istore_n 2, 1) := by decide +kernel
theorem dX8_litresOnRoofs_4 : decode cX8_litresOnRoofs 4 = .ok (.iload_n 2, 1) := by decide +kernel
theorem dX8_litresOnRoofs_5 : decode cX8_litresOnRoofs 5 = .ok (.iconst 4, 1) := by decide +kernel
theorem dX8_litresOnRoofs_6 : decode cX8_litresOnRoofs 6 = .ok (.if_icmp .ge 17, 3) := by decide +kernel
theorem dX8_litresOnRoofs_9 : decode cX8_litresOnRoofs 9 = .ok (.iload_n 1, 1) := by decide +kernel
theorem dX8_litresOnRoofs_10 : decode cX8_litresOnRoofs 10 = .ok (.iload_n 2, 1) := by decide +kernel
theorem dX8_litresOnRoofs_11 : decode cX8_litresOnRoofs 11 = .ok (.iload_n 0, 1) := by decide +kernel
theorem dX8_litresOnRoofs_12 : decode cX8_litresOnRoofs 12 = .ok (.invokestatic 368, 3) := by decide +kernel
theorem dX8_litresOnRoofs_15 : decode cX8_litresOnRoofs 15 = .ok (.iadd, 1) := by decide +kernel
theorem dX8_litresOnRoofs_16 : decode cX8_litresOnRoofs 16 = .ok (.istore_n 1, 1) := by decide +kernel
theorem dX8_litresOnRoofs_17 : decode cX8_litresOnRoofs 17 = .ok (.iinc 2 1, 3) := by decide +kernel
theorem dX8_litresOnRoofs_20 : decode cX8_litresOnRoofs 20 = .ok (.goto (-16), 3) := by decide +kernel
theorem dX8_litresOnRoofs_23 : decode cX8_litresOnRoofs 23 = .ok (.iload_n 1, 1) := by decide +kernel
theorem dX8_litresOnRoofs_24 : decode cX8_litresOnRoofs 24 = .ok (.ireturn, 1) := by decide +kernel
