theorem dL_storm_0 : decode cL_storm 0 = .ok (.aload_n 3, 1) := by decide +kernel
theorem dL_storm_1 : decode cL_storm 1 = .ok (.iconst 0, 1) := by decide +kernel
theorem dL_storm_2 : decode cL_storm 2 = .ok (.aload_n 0, 1) := by decide +kernel
theorem dL_storm_3 : decode cL_storm 3 = .ok (.iload_n 1, 1) := by decide +kernel
theorem dL_storm_4 : decode cL_storm 4 = .ok (.iload_n 2, 1) := by decide +kernel
theorem dL_storm_5 : decode cL_storm 5 = .ok (.invokevirtual 7, 3) := by decide +kernel
theorem dL_storm_8 : decode cL_storm 8 = .ok (.i2l, 1) := by decide +kernel
theorem dL_storm_9 : decode cL_storm 9 = .ok (.lastore, 1) := by decide +kernel
theorem dL_storm_10 : decode cL_storm 10 = .ok (.goto 7, 3) := by decide +kernel
theorem dL_storm_13 : decode cL_storm 13 = .ok (.astore 4, 2) := by decide +kernel
theorem dL_storm_15 : decode cL_storm 15 = .ok (.iconst 1, 1) := by decide +kernel
theorem dL_storm_16 : decode cL_storm 16 = .ok (.ireturn, 1) := by decide +kernel
theorem dL_storm_17 : decode cL_storm 17 = .ok (.iconst 0, 1) := by decide +kernel
theorem dL_storm_18 : decode cL_storm 18 = .ok (.ireturn, 1) := by decide +kernel
theorem dL_barrel_0 : decode cL_barrel 0 = .ok (.aload_n 2, 1) := by decide +kernel
theorem dL_barrel_1 : decode cL_barrel 1 = .ok (.iconst 0, 1) := by decide +kernel
theorem dL_barrel_2 : decode cL_barrel 2 = .ok (.aload_n 0, 1) := by decide +kernel
theorem dL_barrel_3 : decode cL_barrel 3 = .ok (.iload_n 1, 1) := by decide +kernel
theorem dL_barrel_4 : decode cL_barrel 4 = .ok (.invokevirtual 15, 3) := by decide +kernel
theorem dL_barrel_7 : decode cL_barrel 7 = .ok (.i2l, 1) := by decide +kernel
theorem dL_barrel_8 : decode cL_barrel 8 = .ok (.lastore, 1) := by decide +kernel
theorem dL_barrel_9 : decode cL_barrel 9 = .ok (.goto 6, 3) := by decide +kernel
theorem dL_barrel_12 : decode cL_barrel 12 = .ok (.astore_n 3, 1) := by decide +kernel
theorem dL_barrel_13 : decode cL_barrel 13 = .ok (.iconst 1, 1) := by decide +kernel
theorem dL_barrel_14 : decode cL_barrel 14 = .ok (.ireturn, 1) := by decide +kernel
theorem dL_barrel_15 : decode cL_barrel 15 = .ok (.iconst 0, 1) := by decide +kernel
theorem dL_barrel_16 : decode cL_barrel 16 = .ok (.ireturn, 1) := by decide +kernel
theorem dL_takeAway_0 : decode cL_takeAway 0 = .ok (.aload_n 2, 1) := by decide +kernel
theorem dL_takeAway_1 : decode cL_takeAway 1 = .ok (.iconst 0, 1) := by decide +kernel
theorem dL_takeAway_2 : decode cL_takeAway 2 = .ok (.aload_n 0, 1) := by decide +kernel
theorem dL_takeAway_3 : decode cL_takeAway 3 = .ok (.iload_n 1, 1) := by decide +kernel
theorem dL_takeAway_4 : decode cL_takeAway 4 = .ok (.invokevirtual 19, 3) := by decide +kernel
theorem dL_takeAway_7 : decode cL_takeAway 7 = .ok (.i2l, 1) := by decide +kernel
theorem dL_takeAway_8 : decode cL_takeAway 8 = .ok (.lastore, 1) := by decide +kernel
theorem dL_takeAway_9 : decode cL_takeAway 9 = .ok (.goto 6, 3) := by decide +kernel
theorem dL_takeAway_12 : decode cL_takeAway 12 = .ok (.astore_n 3, 1) := by decide +kernel
theorem dL_takeAway_13 : decode cL_takeAway 13 = .ok (.iconst 1, 1) := by decide +kernel
theorem dL_takeAway_14 : decode cL_takeAway 14 = .ok (.ireturn, 1) := by decide +kernel
theorem dL_takeAway_15 : decode cL_takeAway 15 = .ok (.iconst 0, 1) := by decide +kernel
theorem dL_takeAway_16 : decode cL_takeAway 16 = .ok (.ireturn, 1) := by decide +kernel
theorem dL_pour_0 : decode cL_pour 0 = .ok (.aload 4, 2) := by decide +kernel
theorem dL_pour_2 : decode cL_pour 2 = .ok (.iconst 0, 1) := by decide +kernel
theorem dL_pour_3 : decode cL_pour 3 = .ok (.aload_n 0, 1) := by decide +kernel
theorem dL_pour_4 : decode cL_pour 4 = .ok (.iload_n 1, 1) := by decide +kernel
theorem dL_pour_5 : decode cL_pour 5 = .ok (.iload_n 2, 1) := by decide +kernel
theorem dL_pour_6 : decode cL_pour 6 = .ok (.iload_n 3, 1) := by decide +kernel
theorem dL_pour_7 : decode cL_pour 7 = .ok (.invokevirtual 22, 3) := by decide +kernel
theorem dL_pour_10 : decode cL_pour 10 = .ok (.i2l, 1) := by decide +kernel
theorem dL_pour_11 : decode cL_pour 11 = .ok (.lastore, 1) := by decide +kernel
theorem dL_pour_12 : decode cL_pour 12 = .ok (.goto 7, 3) := by decide +kernel
theorem dL_pour_15 : decode cL_pour 15 = .ok (.astore 5, 2) := by decide +kernel
theorem dL_pour_17 : decode cL_pour 17 = .ok (.iconst 1, 1) := by decide +kernel
theorem dL_pour_18 : decode cL_pour 18 = .ok (.ireturn, 1) := by decide +kernel
theorem dL_pour_19 : decode cL_pour 19 = .ok (.iconst 0, 1) := by decide +kernel
theorem dL_pour_20 : decode cL_pour 20 = .ok (.ireturn, 1) := by decide +kernel
theorem dL_hail_0 : decode cL_hail 0 = .ok (.aload_n 3, 1) := by decide +kernel
theorem dL_hail_1 : decode cL_hail 1 = .ok (.iconst 0, 1) := by decide +kernel
theorem dL_hail_2 : decode cL_hail 2 = .ok (.aload_n 0, 1) := by decide +kernel
theorem dL_hail_3 : decode cL_hail 3 = .ok (.iload_n 1, 1) := by decide +kernel
theorem dL_hail_4 : decode cL_hail 4 = .ok (.iload_n 2, 1) := by decide +kernel
theorem dL_hail_5 : decode cL_hail 5 = .ok (.invokevirtual 26, 3) := by decide +kernel
theorem dL_hail_8 : decode cL_hail 8 = .ok (.i2l, 1) := by decide +kernel
theorem dL_hail_9 : decode cL_hail 9 = .ok (.lastore, 1) := by decide +kernel
theorem dL_hail_10 : decode cL_hail 10 = .ok (.goto 7, 3) := by decide +kernel
theorem dL_hail_13 : decode cL_hail 13 = .ok (.astore 4, 2) := by decide +kernel
theorem dL_hail_15 : decode cL_hail 15 = .ok (.iconst 1, 1) := by decide +kernel
theorem dL_hail_16 : decode cL_hail 16 = .ok (.ireturn, 1) := by decide +kernel
theorem dL_hail_17 : decode cL_hail 17 = .ok (.iconst 0, 1) := by decide +kernel
theorem dL_hail_18 : decode cL_hail 18 = .ok (.ireturn, 1) := by decide +kernel
theorem dL_sommelier_0 : decode cL_sommelier 0 = .ok (.aload_n 3, 1) := by decide +kernel
theorem dL_sommelier_1 : decode cL_sommelier 1 = .ok (.iconst 0, 1) := by decide +kernel
theorem dL_sommelier_2 : decode cL_sommelier 2 = .ok (.aload_n 0, 1) := by decide +kernel
theorem dL_sommelier_3 : decode cL_sommelier 3 = .ok (.iload_n 1, 1) := by decide +kernel
theorem dL_sommelier_4 : decode cL_sommelier 4 = .ok (.iload_n 2, 1) := by decide +kernel
theorem dL_sommelier_5 : decode cL_sommelier 5 = .ok (.invokevirtual 29, 3) := by decide +kernel
theorem dL_sommelier_8 : decode cL_sommelier 8 = .ok (.i2l, 1) := by decide +kernel
theorem dL_sommelier_9 : decode cL_sommelier 9 = .ok (.lastore, 1) := by decide +kernel
theorem dL_sommelier_10 : decode cL_sommelier 10 = .ok (.goto 7, 3) := by decide +kernel
theorem dL_sommelier_13 : decode cL_sommelier 13 = .ok (.astore 4, 2) := by decide +kernel
theorem dL_sommelier_15 : decode cL_sommelier 15 = .ok (.iconst 1, 1) := by decide +kernel
theorem dL_sommelier_16 : decode cL_sommelier 16 = .ok (.ireturn, 1) := by decide +kernel
theorem dL_sommelier_17 : decode cL_sommelier 17 = .ok (.iconst 0, 1) := by decide +kernel
theorem dL_sommelier_18 : decode cL_sommelier 18 = .ok (.ireturn, 1) := by decide +kernel
theorem dL_leave_0 : decode cL_leave 0 = .ok (.aload_n 2, 1) := by decide +kernel
theorem dL_leave_1 : decode cL_leave 1 = .ok (.iconst 0, 1) := by decide +kernel
theorem dL_leave_2 : decode cL_leave 2 = .ok (.aload_n 0, 1) := by decide +kernel
theorem dL_leave_3 : decode cL_leave 3 = .ok (.iload_n 1, 1) := by decide +kernel
theorem dL_leave_4 : decode cL_leave 4 = .ok (.invokevirtual 33, 3) := by decide +kernel
theorem dL_leave_7 : decode cL_leave 7 = .ok (.i2l, 1) := by decide +kernel
theorem dL_leave_8 : decode cL_leave 8 = .ok (.lastore, 1) := by decide +kernel
theorem dL_leave_9 : decode cL_leave 9 = .ok (.goto 6, 3) := by decide +kernel
theorem dL_leave_12 : decode cL_leave 12 = .ok (.astore_n 3, 1) := by decide +kernel
theorem dL_leave_13 : decode cL_leave 13 = .ok (.iconst 1, 1) := by decide +kernel
theorem dL_leave_14 : decode cL_leave 14 = .ok (.ireturn, 1) := by decide +kernel
theorem dL_leave_15 : decode cL_leave 15 = .ok (.iconst 0, 1) := by decide +kernel
theorem dL_leave_16 : decode cL_leave 16 = .ok (.ireturn, 1) := by decide +kernel
theorem dL_drink_0 : decode cL_drink 0 = .ok (.aload_n 2, 1) := by decide +kernel
theorem dL_drink_1 : decode cL_drink 1 = .ok (.iconst 0, 1) := by decide +kernel
theorem dL_drink_2 : decode cL_drink 2 = .ok (.aload_n 0, 1) := by decide +kernel
theorem dL_drink_3 : decode cL_drink 3 = .ok (.iload_n 1, 1) := by decide +kernel
theorem dL_drink_4 : decode cL_drink 4 = .ok (.invokevirtual 36, 3) := by decide +kernel
theorem dL_drink_7 : decode cL_drink 7 = .ok (.i2l, 1) := by decide +kernel
theorem dL_drink_8 : decode cL_drink 8 = .ok (.lastore, 1) := by decide +kernel
theorem dL_drink_9 : decode cL_drink 9 = .ok (.goto 6, 3) := by decide +kernel
theorem dL_drink_12 : decode cL_drink 12 = .ok (.astore_n 3, 1) := by decide +kernel
theorem dL_drink_13 : decode cL_drink 13 = .ok (.iconst 1, 1) := by decide +kernel
theorem dL_drink_14 : decode cL_drink 14 = .ok (.ireturn, 1) := by decide +kernel
theorem dL_drink_15 : decode cL_drink 15 = .ok (.iconst 0, 1) := by decide +kernel
theorem dL_drink_16 : decode cL_drink 16 = .ok (.ireturn, 1) := by decide +kernel
theorem dL_clear_0 : decode cL_clear 0 = .ok (.aload_n 2, 1) := by decide +kernel
theorem dL_clear_1 : decode cL_clear 1 = .ok (.iconst 0, 1) := by decide +kernel
theorem dL_clear_2 : decode cL_clear 2 = .ok (.aload_n 0, 1) := by decide +kernel
theorem dL_clear_3 : decode cL_clear 3 = .ok (.iload_n 1, 1) := by decide +kernel
theorem dL_clear_4 : decode cL_clear 4 = .ok (.invokevirtual 39, 3) := by decide +kernel
theorem dL_clear_7 : decode cL_clear 7 = .ok (.i2l, 1) := by decide +kernel
theorem dL_clear_8 : decode cL_clear 8 = .ok (.lastore, 1) := by decide +kernel
theorem dL_clear_9 : decode cL_clear 9 = .ok (.goto 6, 3) := by decide +kernel
theorem dL_clear_12 : decode cL_clear 12 = .ok (.astore_n 3, 1) := by decide +kernel
theorem dL_clear_13 : decode cL_clear 13 = .ok (.iconst 1, 1) := by decide +kernel
theorem dL_clear_14 : decode cL_clear 14 = .ok (.ireturn, 1) := by decide +kernel
theorem dL_clear_15 : decode cL_clear 15 = .ok (.iconst 0, 1) := by decide +kernel
theorem dL_clear_16 : decode cL_clear 16 = .ok (.ireturn, 1) := by decide +kernel
theorem dL_roofOf_0 : decode cL_roofOf 0 = .ok (.aload_n 3, 1) := by decide +kernel
theorem dL_roofOf_1 : decode cL_roofOf 1 = .ok (.iconst 0, 1) := by decide +kernel
theorem dL_roofOf_2 : decode cL_roofOf 2 = .ok (.aload_n 0, 1) := by decide +kernel
theorem dL_roofOf_3 : decode cL_roofOf 3 = .ok (.iload_n 1, 1) := by decide +kernel
theorem dL_roofOf_4 : decode cL_roofOf 4 = .ok (.iload_n 2, 1) := by decide +kernel
theorem dL_roofOf_5 : decode cL_roofOf 5 = .ok (.invokevirtual 42, 3) := by decide +kernel
theorem dL_roofOf_8 : decode cL_roofOf 8 = .ok (.i2l, 1) := by decide +kernel
theorem dL_roofOf_9 : decode cL_roofOf 9 = .ok (.lastore, 1) := by decide +kernel
theorem dL_roofOf_10 : decode cL_roofOf 10 = .ok (.goto 11, 3) := by decide +kernel
theorem dL_roofOf_13 : decode cL_roofOf 13 = .ok (.astore 4, 2) := by decide +kernel
theorem dL_roofOf_15 : decode cL_roofOf 15 = .ok (.iconst 1, 1) := by decide +kernel
theorem dL_roofOf_16 : decode cL_roofOf 16 = .ok (.ireturn, 1) := by decide +kernel
theorem dL_roofOf_17 : decode cL_roofOf 17 = .ok (.astore 4, 2) := by decide +kernel
theorem dL_roofOf_19 : decode cL_roofOf 19 = .ok (.iconst 2, 1) := by decide +kernel
theorem dL_roofOf_20 : decode cL_roofOf 20 = .ok (.ireturn, 1) := by decide +kernel
theorem dL_roofOf_21 : decode cL_roofOf 21 = .ok (.iconst 0, 1) := by decide +kernel
theorem dL_roofOf_22 : decode cL_roofOf 22 = .ok (.ireturn, 1) := by decide +kernel
theorem dL_barrelOf_0 : decode cL_barrelOf 0 = .ok (.aload_n 3, 1) := by decide +kernel
theorem dL_barrelOf_1 : decode cL_barrelOf 1 = .ok (.iconst 0, 1) := by decide +kernel
theorem dL_barrelOf_2 : decode cL_barrelOf 2 = .ok (.aload_n 0, 1) := by decide +kernel
theorem dL_barrelOf_3 : decode cL_barrelOf 3 = .ok (.iload_n 1, 1) := by decide +kernel
theorem dL_barrelOf_4 : decode cL_barrelOf 4 = .ok (.iload_n 2, 1) := by decide +kernel
theorem dL_barrelOf_5 : decode cL_barrelOf 5 = .ok (.invokevirtual 49, 3) := by decide +kernel
theorem dL_barrelOf_8 : decode cL_barrelOf 8 = .ok (.i2l, 1) := by decide +kernel
theorem dL_barrelOf_9 : decode cL_barrelOf 9 = .ok (.lastore, 1) := by decide +kernel
theorem dL_barrelOf_10 : decode cL_barrelOf 10 = .ok (.goto 11, 3) := by decide +kernel
theorem dL_barrelOf_13 : decode cL_barrelOf 13 = .ok (.astore 4, 2) := by decide +kernel
theorem dL_barrelOf_15 : decode cL_barrelOf 15 = .ok (.iconst 1, 1) := by decide +kernel
theorem dL_barrelOf_16 : decode cL_barrelOf 16 = .ok (.ireturn, 1) := by decide +kernel
theorem dL_barrelOf_17 : decode cL_barrelOf 17 = .ok (.astore 4, 2) := by decide +kernel
theorem dL_barrelOf_19 : decode cL_barrelOf 19 = .ok (.iconst 2, 1) := by decide +kernel
theorem dL_barrelOf_20 : decode cL_barrelOf 20 = .ok (.ireturn, 1) := by decide +kernel
theorem dL_barrelOf_21 : decode cL_barrelOf 21 = .ok (.iconst 0, 1) := by decide +kernel
theorem dL_barrelOf_22 : decode cL_barrelOf 22 = .ok (.ireturn, 1) := by decide +kernel
theorem dL_note_0 : decode cL_note 0 = .ok (.aload_n 2, 1) := by decide +kernel
theorem dL_note_1 : decode cL_note 1 = .ok (.iconst 0, 1) := by decide +kernel
theorem dL_note_2 : decode cL_note 2 = .ok (.aload_n 0, 1) := by decide +kernel
theorem dL_note_3 : decode cL_note 3 = .ok (.iload_n 1, 1) := by decide +kernel
theorem dL_note_4 : decode cL_note 4 = .ok (.invokevirtual 52, 3) := by decide +kernel
theorem dL_note_7 : decode cL_note 7 = .ok (.i2l, 1) := by decide +kernel
theorem dL_note_8 : decode cL_note 8 = .ok (.lastore, 1) := by decide +kernel
theorem dL_note_9 : decode cL_note 9 = .ok (.goto 9, 3) := by decide +kernel
theorem dL_note_12 : decode cL_note 12 = .ok (.astore_n 3, 1) := by decide +kernel
theorem dL_note_13 : decode cL_note 13 = .ok (.iconst 1, 1) := by decide +kernel
theorem dL_note_14 : decode cL_note 14 = .ok (.ireturn, 1) := by decide +kernel
theorem dL_note_15 : decode cL_note 15 = .ok (.astore_n 3, 1) := by decide +kernel
theorem dL_note_16 : decode cL_note 16 = .ok (.iconst 2, 1) := by decide +kernel
theorem dL_note_17 : decode cL_note 17 = .ok (.ireturn, 1) := by decide +kernel
theorem dL_note_18 : decode cL_note 18 = .ok (.iconst 0, 1) := by decide +kernel
theorem dL_note_19 : decode cL_note 19 = .ok (.ireturn, 1) := by decide +kernel
theorem dL_noteAgain_0 : decode cL_noteAgain 0 = .ok (.aload_n 2, 1) := by decide +kernel
theorem dL_noteAgain_1 : decode cL_noteAgain 1 = .ok (.iconst 0, 1) := by decide +kernel
theorem dL_noteAgain_2 : decode cL_noteAgain 2 = .ok (.aload_n 0, 1) := by decide +kernel
theorem dL_noteAgain_3 : decode cL_noteAgain 3 = .ok (.iload_n 1, 1) := by decide +kernel
theorem dL_noteAgain_4 : decode cL_noteAgain 4 = .ok (.invokevirtual 57, 3) := by decide +kernel
theorem dL_noteAgain_7 : decode cL_noteAgain 7 = .ok (.i2l, 1) := by decide +kernel
theorem dL_noteAgain_8 : decode cL_noteAgain 8 = .ok (.lastore, 1) := by decide +kernel
theorem dL_noteAgain_9 : decode cL_noteAgain 9 = .ok (.goto 9, 3) := by decide +kernel
theorem dL_noteAgain_12 : decode cL_noteAgain 12 = .ok (.astore_n 3, 1) := by decide +kernel
theorem dL_noteAgain_13 : decode cL_noteAgain 13 = .ok (.iconst 1, 1) := by decide +kernel
theorem dL_noteAgain_14 : decode cL_noteAgain 14 = .ok (.ireturn, 1) := by decide +kernel
theorem dL_noteAgain_15 : decode cL_noteAgain 15 = .ok (.astore_n 3, 1) := by decide +kernel
theorem dL_noteAgain_16 : decode cL_noteAgain 16 = .ok (.iconst 2, 1) := by decide +kernel
theorem dL_noteAgain_17 : decode cL_noteAgain 17 = .ok (.ireturn, 1) := by decide +kernel
theorem dL_noteAgain_18 : decode cL_noteAgain 18 = .ok (.iconst 0, 1) := by decide +kernel
theorem dL_noteAgain_19 : decode cL_noteAgain 19 = .ok (.ireturn, 1) := by decide +kernel
theorem dL_noteIn_0 : decode cL_noteIn 0 = .ok (.aload_n 3, 1) := by decide +kernel
theorem dL_noteIn_1 : decode cL_noteIn 1 = .ok (.iconst 0, 1) := by decide +kernel
theorem dL_noteIn_2 : decode cL_noteIn 2 = .ok (.aload_n 0, 1) := by decide +kernel
theorem dL_noteIn_3 : decode cL_noteIn 3 = .ok (.iload_n 1, 1) := by decide +kernel
theorem dL_noteIn_4 : decode cL_noteIn 4 = .ok (.iload_n 2, 1) := by decide +kernel
theorem dL_noteIn_5 : decode cL_noteIn 5 = .ok (.invokevirtual 60, 3) := by decide +kernel
theorem dL_noteIn_8 : decode cL_noteIn 8 = .ok (.i2l, 1) := by decide +kernel
theorem dL_noteIn_9 : decode cL_noteIn 9 = .ok (.lastore, 1) := by decide +kernel
theorem dL_noteIn_10 : decode cL_noteIn 10 = .ok (.goto 15, 3) := by decide +kernel
theorem dL_noteIn_13 : decode cL_noteIn 13 = .ok (.astore 4, 2) := by decide +kernel
theorem dL_noteIn_15 : decode cL_noteIn 15 = .ok (.iconst 1, 1) := by decide +kernel
theorem dL_noteIn_16 : decode cL_noteIn 16 = .ok (.ireturn, 1) := by decide +kernel
theorem dL_noteIn_17 : decode cL_noteIn 17 = .ok (.astore 4, 2) := by decide +kernel
theorem dL_noteIn_19 : decode cL_noteIn 19 = .ok (.iconst 2, 1) := by decide +kernel
theorem dL_noteIn_20 : decode cL_noteIn 20 = .ok (.ireturn, 1) := by decide +kernel
theorem dL_noteIn_21 : decode cL_noteIn 21 = .ok (.astore 4, 2) := by decide +kernel
theorem dL_noteIn_23 : decode cL_noteIn 23 = .ok (.iconst 3, 1) := by decide +kernel
theorem dL_noteIn_24 : decode cL_noteIn 24 = .ok (.ireturn, 1) := by decide +kernel
theorem dL_noteIn_25 : decode cL_noteIn 25 = .ok (.iconst 0, 1) := by decide +kernel
theorem dL_noteIn_26 : decode cL_noteIn 26 = .ok (.ireturn, 1) := by decide +kernel
theorem dL_notices_0 : decode cL_notices 0 = .ok (.aload_n 3, 1) := by decide +kernel
theorem dL_notices_1 : decode cL_notices 1 = .ok (.iconst 0, 1) := by decide +kernel
theorem dL_notices_2 : decode cL_notices 2 = .ok (.aload_n 0, 1) := by decide +kernel
theorem dL_notices_3 : decode cL_notices 3 = .ok (.iload_n 1, 1) := by decide +kernel
theorem dL_notices_4 : decode cL_notices 4 = .ok (.iload_n 2, 1) := by decide +kernel
theorem dL_notices_5 : decode cL_notices 5 = .ok (.invokevirtual 63, 3) := by decide +kernel
theorem dL_notices_8 : decode cL_notices 8 = .ok (.ifCond .eq 7, 3) := by decide +kernel
theorem dL_notices_11 : decode cL_notices 11 = .ok (.lconst 1, 1) := by decide +kernel
theorem dL_notices_12 : decode cL_notices 12 = .ok (.goto 4, 3) := by decide +kernel
theorem dL_notices_15 : decode cL_notices 15 = .ok (.lconst 0, 1) := by decide +kernel
theorem dL_notices_16 : decode cL_notices 16 = .ok (.lastore, 1) := by decide +kernel
theorem dL_notices_17 : decode cL_notices 17 = .ok (.goto 7, 3) := by decide +kernel
theorem dL_notices_20 : decode cL_notices 20 = .ok (.astore 4, 2) := by decide +kernel
theorem dL_notices_22 : decode cL_notices 22 = .ok (.iconst 1, 1) := by decide +kernel
theorem dL_notices_23 : decode cL_notices 23 = .ok (.ireturn, 1) := by decide +kernel
theorem dL_notices_24 : decode cL_notices 24 = .ok (.iconst 0, 1) := by decide +kernel
theorem dL_notices_25 : decode cL_notices 25 = .ok (.ireturn, 1) := by decide +kernel
theorem dL_noticing_0 : decode cL_noticing 0 = .ok (.aload_n 2, 1) := by decide +kernel
theorem dL_noticing_1 : decode cL_noticing 1 = .ok (.iconst 0, 1) := by decide +kernel
theorem dL_noticing_2 : decode cL_noticing 2 = .ok (.aload_n 0, 1) := by decide +kernel
theorem dL_noticing_3 : decode cL_noticing 3 = .ok (.iload_n 1, 1) := by decide +kernel
theorem dL_noticing_4 : decode cL_noticing 4 = .ok (.invokevirtual 67, 3) := by decide +kernel
theorem dL_noticing_7 : decode cL_noticing 7 = .ok (.i2l, 1) := by decide +kernel
theorem dL_noticing_8 : decode cL_noticing 8 = .ok (.lastore, 1) := by decide +kernel
theorem dL_noticing_9 : decode cL_noticing 9 = .ok (.goto 6, 3) := by decide +kernel
theorem dL_noticing_12 : decode cL_noticing 12 = .ok (.astore_n 3, 1) := by decide +kernel
theorem dL_noticing_13 : decode cL_noticing 13 = .ok (.iconst 1, 1) := by decide +kernel
theorem dL_noticing_14 : decode cL_noticing 14 = .ok (.ireturn, 1) := by decide +kernel
theorem dL_noticing_15 : decode cL_noticing 15 = .ok (.iconst 0, 1) := by decide +kernel
theorem dL_noticing_16 : decode cL_noticing 16 = .ok (.ireturn, 1) := by decide +kernel
theorem dL_hidden_0 : decode cL_hidden 0 = .ok (.aload_n 2, 1) := by decide +kernel
theorem dL_hidden_1 : decode cL_hidden 1 = .ok (.iconst 0, 1) := by decide +kernel
theorem dL_hidden_2 : decode cL_hidden 2 = .ok (.aload_n 0, 1) := by decide +kernel
theorem dL_hidden_3 : decode cL_hidden 3 = .ok (.iload_n 1, 1) := by decide +kernel
theorem dL_hidden_4 : decode cL_hidden 4 = .ok (.invokevirtual 70, 3) := by decide +kernel
theorem dL_hidden_7 : decode cL_hidden 7 = .ok (.i2l, 1) := by decide +kernel
theorem dL_hidden_8 : decode cL_hidden 8 = .ok (.lastore, 1) := by decide +kernel
theorem dL_hidden_9 : decode cL_hidden 9 = .ok (.goto 9, 3) := by decide +kernel
theorem dL_hidden_12 : decode cL_hidden 12 = .ok (.astore_n 3, 1) := by decide +kernel
theorem dL_hidden_13 : decode cL_hidden 13 = .ok (.iconst 1, 1) := by decide +kernel
theorem dL_hidden_14 : decode cL_hidden 14 = .ok (.ireturn, 1) := by decide +kernel
theorem dL_hidden_15 : decode cL_hidden 15 = .ok (.astore_n 3, 1) := by decide +kernel
theorem dL_hidden_16 : decode cL_hidden 16 = .ok (.iconst 2, 1) := by decide +kernel
theorem dL_hidden_17 : decode cL_hidden 17 = .ok (.ireturn, 1) := by decide +kernel
theorem dL_hidden_18 : decode cL_hidden 18 = .ok (.iconst 0, 1) := by decide +kernel
theorem dL_hidden_19 : decode cL_hidden 19 = .ok (.ireturn, 1) := by decide +kernel
theorem dL_hiddenAgain_0 : decode cL_hiddenAgain 0 = .ok (.aload_n 2, 1) := by decide +kernel
theorem dL_hiddenAgain_1 : decode cL_hiddenAgain 1 = .ok (.iconst 0, 1) := by decide +kernel
theorem dL_hiddenAgain_2 : decode cL_hiddenAgain 2 = .ok (.aload_n 0, 1) := by decide +kernel
theorem dL_hiddenAgain_3 : decode cL_hiddenAgain 3 = .ok (.iload_n 1, 1) := by decide +kernel
theorem dL_hiddenAgain_4 : decode cL_hiddenAgain 4 = .ok (.invokevirtual 73, 3) := by decide +kernel
theorem dL_hiddenAgain_7 : decode cL_hiddenAgain 7 = .ok (.i2l, 1) := by decide +kernel
theorem dL_hiddenAgain_8 : decode cL_hiddenAgain 8 = .ok (.lastore, 1) := by decide +kernel
theorem dL_hiddenAgain_9 : decode cL_hiddenAgain 9 = .ok (.goto 9, 3) := by decide +kernel
theorem dL_hiddenAgain_12 : decode cL_hiddenAgain 12 = .ok (.astore_n 3, 1) := by decide +kernel
theorem dL_hiddenAgain_13 : decode cL_hiddenAgain 13 = .ok (.iconst 1, 1) := by decide +kernel
theorem dL_hiddenAgain_14 : decode cL_hiddenAgain 14 = .ok (.ireturn, 1) := by decide +kernel
theorem dL_hiddenAgain_15 : decode cL_hiddenAgain 15 = .ok (.astore_n 3, 1) := by decide +kernel
theorem dL_hiddenAgain_16 : decode cL_hiddenAgain 16 = .ok (.iconst 2, 1) := by decide +kernel
theorem dL_hiddenAgain_17 : decode cL_hiddenAgain 17 = .ok (.ireturn, 1) := by decide +kernel
theorem dL_hiddenAgain_18 : decode cL_hiddenAgain 18 = .ok (.iconst 0, 1) := by decide +kernel
theorem dL_hiddenAgain_19 : decode cL_hiddenAgain 19 = .ok (.ireturn, 1) := by decide +kernel
theorem dL_wouldCatch_0 : decode cL_wouldCatch 0 = .ok (.aload_n 2, 1) := by decide +kernel
theorem dL_wouldCatch_1 : decode cL_wouldCatch 1 = .ok (.iconst 0, 1) := by decide +kernel
theorem dL_wouldCatch_2 : decode cL_wouldCatch 2 = .ok (.aload_n 0, 1) := by decide +kernel
theorem dL_wouldCatch_3 : decode cL_wouldCatch 3 = .ok (.iload_n 1, 1) := by decide +kernel
theorem dL_wouldCatch_4 : decode cL_wouldCatch 4 = .ok (.invokevirtual 76, 3) := by decide +kernel
theorem dL_wouldCatch_7 : decode cL_wouldCatch 7 = .ok (.i2l, 1) := by decide +kernel
theorem dL_wouldCatch_8 : decode cL_wouldCatch 8 = .ok (.lastore, 1) := by decide +kernel
theorem dL_wouldCatch_9 : decode cL_wouldCatch 9 = .ok (.goto 6, 3) := by decide +kernel
theorem dL_wouldCatch_12 : decode cL_wouldCatch 12 = .ok (.astore_n 3, 1) := by decide +kernel
theorem dL_wouldCatch_13 : decode cL_wouldCatch 13 = .ok (.iconst 1, 1) := by decide +kernel
theorem dL_wouldCatch_14 : decode cL_wouldCatch 14 = .ok (.ireturn, 1) := by decide +kernel
theorem dL_wouldCatch_15 : decode cL_wouldCatch 15 = .ok (.iconst 0, 1) := by decide +kernel
theorem dL_wouldCatch_16 : decode cL_wouldCatch 16 = .ok (.ireturn, 1) := by decide +kernel
theorem dL_wouldLose_0 : decode cL_wouldLose 0 = .ok (.aload_n 2, 1) := by decide +kernel
theorem dL_wouldLose_1 : decode cL_wouldLose 1 = .ok (.iconst 0, 1) := by decide +kernel
theorem dL_wouldLose_2 : decode cL_wouldLose 2 = .ok (.aload_n 0, 1) := by decide +kernel
theorem dL_wouldLose_3 : decode cL_wouldLose 3 = .ok (.iload_n 1, 1) := by decide +kernel
theorem dL_wouldLose_4 : decode cL_wouldLose 4 = .ok (.invokevirtual 79, 3) := by decide +kernel
theorem dL_wouldLose_7 : decode cL_wouldLose 7 = .ok (.i2l, 1) := by decide +kernel
theorem dL_wouldLose_8 : decode cL_wouldLose 8 = .ok (.lastore, 1) := by decide +kernel
theorem dL_wouldLose_9 : decode cL_wouldLose 9 = .ok (.goto 6, 3) := by decide +kernel
theorem dL_wouldLose_12 : decode cL_wouldLose 12 = .ok (.astore_n 3, 1) := by decide +kernel
theorem dL_wouldLose_13 : decode cL_wouldLose 13 = .ok (.iconst 1, 1) := by decide +kernel
theorem dL_wouldLose_14 : decode cL_wouldLose 14 = .ok (.ireturn, 1) := by decide +kernel
theorem dL_wouldLose_15 : decode cL_wouldLose 15 = .ok (.iconst 0, 1) := by decide +kernel
theorem dL_wouldLose_16 : decode cL_wouldLose 16 = .ok (.ireturn, 1) := by decide +kernel
theorem dL_vintage_0 : decode cL_vintage 0 = .ok (.aload_n 2, 1) := by decide +kernel
theorem dL_vintage_1 : decode cL_vintage 1 = .ok (.iconst 0, 1) := by decide +kernel
theorem dL_vintage_2 : decode cL_vintage 2 = .ok (.aload_n 0, 1) := by decide +kernel
theorem dL_vintage_3 : decode cL_vintage 3 = .ok (.iload_n 1, 1) := by decide +kernel
theorem dL_vintage_4 : decode cL_vintage 4 = .ok (.invokevirtual 82, 3) := by decide +kernel
theorem dL_vintage_7 : decode cL_vintage 7 = .ok (.i2l, 1) := by decide +kernel
theorem dL_vintage_8 : decode cL_vintage 8 = .ok (.lastore, 1) := by decide +kernel
theorem dL_vintage_9 : decode cL_vintage 9 = .ok (.goto 6, 3) := by decide +kernel
theorem dL_vintage_12 : decode cL_vintage 12 = .ok (.astore_n 3, 1) := by decide +kernel
theorem dL_vintage_13 : decode cL_vintage 13 = .ok (.iconst 1, 1) := by decide +kernel
theorem dL_vintage_14 : decode cL_vintage 14 = .ok (.ireturn, 1) := by decide +kernel
theorem dL_vintage_15 : decode cL_vintage 15 = .ok (.iconst 0, 1) := by decide +kernel
theorem dL_vintage_16 : decode cL_vintage 16 = .ok (.ireturn, 1) := by decide +kernel
theorem dL_stormOf_0 : decode cL_stormOf 0 = .ok (.aload_n 3, 1) := by decide +kernel
theorem dL_stormOf_1 : decode cL_stormOf 1 = .ok (.iconst 0, 1) := by decide +kernel
theorem dL_stormOf_2 : decode cL_stormOf 2 = .ok (.aload_n 0, 1) := by decide +kernel
theorem dL_stormOf_3 : decode cL_stormOf 3 = .ok (.iload_n 1, 1) := by decide +kernel
theorem dL_stormOf_4 : decode cL_stormOf 4 = .ok (.iload_n 2, 1) := by decide +kernel
theorem dL_stormOf_5 : decode cL_stormOf 5 = .ok (.invokevirtual 85, 3) := by decide +kernel
theorem dL_stormOf_8 : decode cL_stormOf 8 = .ok (.i2l, 1) := by decide +kernel
theorem dL_stormOf_9 : decode cL_stormOf 9 = .ok (.lastore, 1) := by decide +kernel
theorem dL_stormOf_10 : decode cL_stormOf 10 = .ok (.goto 11, 3) := by decide +kernel
theorem dL_stormOf_13 : decode cL_stormOf 13 = .ok (.astore 4, 2) := by decide +kernel
theorem dL_stormOf_15 : decode cL_stormOf 15 = .ok (.iconst 1, 1) := by decide +kernel
theorem dL_stormOf_16 : decode cL_stormOf 16 = .ok (.ireturn, 1) := by decide +kernel
theorem dL_stormOf_17 : decode cL_stormOf 17 = .ok (.astore 4, 2) := by decide +kernel
theorem dL_stormOf_19 : decode cL_stormOf 19 = .ok (.iconst 2, 1) := by decide +kernel
theorem dL_stormOf_20 : decode cL_stormOf 20 = .ok (.ireturn, 1) := by decide +kernel
theorem dL_stormOf_21 : decode cL_stormOf 21 = .ok (.iconst 0, 1) := by decide +kernel
theorem dL_stormOf_22 : decode cL_stormOf 22 = .ok (.ireturn, 1) := by decide +kernel
theorem dL_canPour_0 : decode cL_canPour 0 = .ok (.aload_n 3, 1) := by decide +kernel
theorem dL_canPour_1 : decode cL_canPour 1 = .ok (.iconst 0, 1) := by decide +kernel
theorem dL_canPour_2 : decode cL_canPour 2 = .ok (.aload_n 0, 1) := by decide +kernel
theorem dL_canPour_3 : decode cL_canPour 3 = .ok (.iload_n 1, 1) := by decide +kernel
theorem dL_canPour_4 : decode cL_canPour 4 = .ok (.iload_n 2, 1) := by decide +kernel
theorem dL_canPour_5 : decode cL_canPour 5 = .ok (.invokevirtual 88, 3) := by decide +kernel
theorem dL_canPour_8 : decode cL_canPour 8 = .ok (.ifCond .eq 7, 3) := by decide +kernel
theorem dL_canPour_11 : decode cL_canPour 11 = .ok (.lconst 1, 1) := by decide +kernel
theorem dL_canPour_12 : decode cL_canPour 12 = .ok (.goto 4, 3) := by decide +kernel
theorem dL_canPour_15 : decode cL_canPour 15 = .ok (.lconst 0, 1) := by decide +kernel
theorem dL_canPour_16 : decode cL_canPour 16 = .ok (.lastore, 1) := by decide +kernel
theorem dL_canPour_17 : decode cL_canPour 17 = .ok (.goto 7, 3) := by decide +kernel
theorem dL_canPour_20 : decode cL_canPour 20 = .ok (.astore 4, 2) := by decide +kernel
theorem dL_canPour_22 : decode cL_canPour 22 = .ok (.iconst 1, 1) := by decide +kernel
theorem dL_canPour_23 : decode cL_canPour 23 = .ok (.ireturn, 1) := by decide +kernel
theorem dL_canPour_24 : decode cL_canPour 24 = .ok (.iconst 0, 1) := by decide +kernel
theorem dL_canPour_25 : decode cL_canPour 25 = .ok (.ireturn, 1) := by decide +kernel
theorem dL_ranked_0 : decode cL_ranked 0 = .ok (.aload_n 3, 1) := by decide +kernel
theorem dL_ranked_1 : decode cL_ranked 1 = .ok (.iconst 0, 1) := by decide +kernel
theorem dL_ranked_2 : decode cL_ranked 2 = .ok (.aload_n 0, 1) := by decide +kernel
theorem dL_ranked_3 : decode cL_ranked 3 = .ok (.iload_n 1, 1) := by decide +kernel
theorem dL_ranked_4 : decode cL_ranked 4 = .ok (.iload_n 2, 1) := by decide +kernel
theorem dL_ranked_5 : decode cL_ranked 5 = .ok (.invokevirtual 91, 3) := by decide +kernel
theorem dL_ranked_8 : decode cL_ranked 8 = .ok (.i2l, 1) := by decide +kernel
theorem dL_ranked_9 : decode cL_ranked 9 = .ok (.lastore, 1) := by decide +kernel
theorem dL_ranked_10 : decode cL_ranked 10 = .ok (.goto 11, 3) := by decide +kernel
theorem dL_ranked_13 : decode cL_ranked 13 = .ok (.astore 4, 2) := by decide +kernel
theorem dL_ranked_15 : decode cL_ranked 15 = .ok (.iconst 1, 1) := by decide +kernel
theorem dL_ranked_16 : decode cL_ranked 16 = .ok (.ireturn, 1) := by decide +kernel
theorem dL_ranked_17 : decode cL_ranked 17 = .ok (.astore 4, 2) := by decide +kernel
theorem dL_ranked_19 : decode cL_ranked 19 = .ok (.iconst 2, 1) := by decide +kernel
theorem dL_ranked_20 : decode cL_ranked 20 = .ok (.ireturn, 1) := by decide +kernel
theorem dL_ranked_21 : decode cL_ranked 21 = .ok (.iconst 0, 1) := by decide +kernel
theorem dL_ranked_22 : decode cL_ranked 22 = .ok (.ireturn, 1) := by decide +kernel
theorem dL_append_0 : decode cL_append 0 = .ok (.aload_n 2, 1) := by decide +kernel
theorem dL_append_1 : decode cL_append 1 = .ok (.iconst 0, 1) := by decide +kernel
theorem dL_append_2 : decode cL_append 2 = .ok (.aload_n 0, 1) := by decide +kernel
theorem dL_append_3 : decode cL_append 3 = .ok (.iload_n 1, 1) := by decide +kernel
theorem dL_append_4 : decode cL_append 4 = .ok (.invokevirtual 94, 3) := by decide +kernel
theorem dL_append_7 : decode cL_append 7 = .ok (.i2l, 1) := by decide +kernel
theorem dL_append_8 : decode cL_append 8 = .ok (.lastore, 1) := by decide +kernel
theorem dL_append_9 : decode cL_append 9 = .ok (.goto 6, 3) := by decide +kernel
theorem dL_append_12 : decode cL_append 12 = .ok (.astore_n 3, 1) := by decide +kernel
theorem dL_append_13 : decode cL_append 13 = .ok (.iconst 1, 1) := by decide +kernel
theorem dL_append_14 : decode cL_append 14 = .ok (.ireturn, 1) := by decide +kernel
theorem dL_append_15 : decode cL_append 15 = .ok (.iconst 0, 1) := by decide +kernel
theorem dL_append_16 : decode cL_append 16 = .ok (.ireturn, 1) := by decide +kernel
theorem dL_commands_0 : decode cL_commands 0 = .ok (.aload_n 1, 1) := by decide +kernel
theorem dL_commands_1 : decode cL_commands 1 = .ok (.iconst 0, 1) := by decide +kernel
theorem dL_commands_2 : decode cL_commands 2 = .ok (.aload_n 0, 1) := by decide +kernel
theorem dL_commands_3 : decode cL_commands 3 = .ok (.invokevirtual 100, 3) := by decide +kernel
theorem dL_commands_6 : decode cL_commands 6 = .ok (.i2l, 1) := by decide +kernel
theorem dL_commands_7 : decode cL_commands 7 = .ok (.lastore, 1) := by decide +kernel
theorem dL_commands_8 : decode cL_commands 8 = .ok (.goto 9, 3) := by decide +kernel
theorem dL_commands_11 : decode cL_commands 11 = .ok (.astore_n 2, 1) := by decide +kernel
theorem dL_commands_12 : decode cL_commands 12 = .ok (.iconst 1, 1) := by decide +kernel
theorem dL_commands_13 : decode cL_commands 13 = .ok (.ireturn, 1) := by decide +kernel
theorem dL_commands_14 : decode cL_commands 14 = .ok (.astore_n 2, 1) := by decide +kernel
theorem dL_commands_15 : decode cL_commands 15 = .ok (.iconst 2, 1) := by decide +kernel
theorem dL_commands_16 : decode cL_commands 16 = .ok (.ireturn, 1) := by decide +kernel
theorem dL_commands_17 : decode cL_commands 17 = .ok (.iconst 0, 1) := by decide +kernel
theorem dL_commands_18 : decode cL_commands 18 = .ok (.ireturn, 1) := by decide +kernel
theorem dL_reason_0 : decode cL_reason 0 = .ok (.aload_n 2, 1) := by decide +kernel
theorem dL_reason_1 : decode cL_reason 1 = .ok (.iconst 0, 1) := by decide +kernel
theorem dL_reason_2 : decode cL_reason 2 = .ok (.aload_n 0, 1) := by decide +kernel
theorem dL_reason_3 : decode cL_reason 3 = .ok (.iload_n 1, 1) := by decide +kernel
theorem dL_reason_4 : decode cL_reason 4 = .ok (.invokevirtual 104, 3) := by decide +kernel
theorem dL_reason_7 : decode cL_reason 7 = .ok (.i2l, 1) := by decide +kernel
theorem dL_reason_8 : decode cL_reason 8 = .ok (.lastore, 1) := by decide +kernel
theorem dL_reason_9 : decode cL_reason 9 = .ok (.goto 9, 3) := by decide +kernel
theorem dL_reason_12 : decode cL_reason 12 = .ok (.astore_n 3, 1) := by decide +kernel
theorem dL_reason_13 : decode cL_reason 13 = .ok (.iconst 1, 1) := by decide +kernel
theorem dL_reason_14 : decode cL_reason 14 = .ok (.ireturn, 1) := by decide +kernel
theorem dL_reason_15 : decode cL_reason 15 = .ok (.astore_n 3, 1) := by decide +kernel
theorem dL_reason_16 : decode cL_reason 16 = .ok (.iconst 2, 1) := by decide +kernel
theorem dL_reason_17 : decode cL_reason 17 = .ok (.ireturn, 1) := by decide +kernel
theorem dL_reason_18 : decode cL_reason 18 = .ok (.iconst 0, 1) := by decide +kernel
theorem dL_reason_19 : decode cL_reason 19 = .ok (.ireturn, 1) := by decide +kernel
theorem dL_line_0 : decode cL_line 0 = .ok (.aload_n 2, 1) := by decide +kernel
theorem dL_line_1 : decode cL_line 1 = .ok (.iconst 0, 1) := by decide +kernel
theorem dL_line_2 : decode cL_line 2 = .ok (.aload_n 0, 1) := by decide +kernel
theorem dL_line_3 : decode cL_line 3 = .ok (.iload_n 1, 1) := by decide +kernel
theorem dL_line_4 : decode cL_line 4 = .ok (.invokevirtual 107, 3) := by decide +kernel
theorem dL_line_7 : decode cL_line 7 = .ok (.i2l, 1) := by decide +kernel
theorem dL_line_8 : decode cL_line 8 = .ok (.lastore, 1) := by decide +kernel
theorem dL_line_9 : decode cL_line 9 = .ok (.goto 6, 3) := by decide +kernel
theorem dL_line_12 : decode cL_line 12 = .ok (.astore_n 3, 1) := by decide +kernel
theorem dL_line_13 : decode cL_line 13 = .ok (.iconst 1, 1) := by decide +kernel
theorem dL_line_14 : decode cL_line 14 = .ok (.ireturn, 1) := by decide +kernel
theorem dL_line_15 : decode cL_line 15 = .ok (.iconst 0, 1) := by decide +kernel
theorem dL_line_16 : decode cL_line 16 = .ok (.ireturn, 1) := by decide +kernel
theorem dL_character_0 : decode cL_character 0 = .ok (.aload_n 2, 1) := by decide +kernel
theorem dL_character_1 : decode cL_character 1 = .ok (.iconst 0, 1) := by decide +kernel
theorem dL_character_2 : decode cL_character 2 = .ok (.aload_n 0, 1) := by decide +kernel
theorem dL_character_3 : decode cL_character 3 = .ok (.iload_n 1, 1) := by decide +kernel
theorem dL_character_4 : decode cL_character 4 = .ok (.invokevirtual 110, 3) := by decide +kernel
theorem dL_character_7 : decode cL_character 7 = .ok (.i2l, 1) := by decide +kernel
theorem dL_character_8 : decode cL_character 8 = .ok (.lastore, 1) := by decide +kernel
theorem dL_character_9 : decode cL_character 9 = .ok (.goto 6, 3) := by decide +kernel
theorem dL_character_12 : decode cL_character 12 = .ok (.astore_n 3, 1) := by decide +kernel
theorem dL_character_13 : decode cL_character 13 = .ok (.iconst 1, 1) := by decide +kernel
theorem dL_character_14 : decode cL_character 14 = .ok (.ireturn, 1) := by decide +kernel
theorem dL_character_15 : decode cL_character 15 = .ok (.iconst 0, 1) := by decide +kernel
theorem dL_character_16 : decode cL_character 16 = .ok (.ireturn, 1) := by decide +kernel
theorem dL_meanNote_0 : decode cL_meanNote 0 = .ok (.aload_n 1, 1) := by decide +kernel
theorem dL_meanNote_1 : decode cL_meanNote 1 = .ok (.iconst 0, 1) := by decide +kernel
theorem dL_meanNote_2 : decode cL_meanNote 2 = .ok (.aload_n 0, 1) := by decide +kernel
theorem dL_meanNote_3 : decode cL_meanNote 3 = .ok (.invokevirtual 114, 3) := by decide +kernel
theorem dL_meanNote_6 : decode cL_meanNote 6 = .ok (.dastore, 1) := by decide +kernel
theorem dL_meanNote_7 : decode cL_meanNote 7 = .ok (.goto 6, 3) := by decide +kernel
theorem dL_meanNote_10 : decode cL_meanNote 10 = .ok (.astore_n 2, 1) := by decide +kernel
theorem dL_meanNote_11 : decode cL_meanNote 11 = .ok (.iconst 1, 1) := by decide +kernel
theorem dL_meanNote_12 : decode cL_meanNote 12 = .ok (.ireturn, 1) := by decide +kernel
theorem dL_meanNote_13 : decode cL_meanNote 13 = .ok (.iconst 0, 1) := by decide +kernel
theorem dL_meanNote_14 : decode cL_meanNote 14 = .ok (.ireturn, 1) := by decide +kernel
theorem dL_hailShare_0 : decode cL_hailShare 0 = .ok (.aload_n 1, 1) := by decide +kernel
theorem dL_hailShare_1 : decode cL_hailShare 1 = .ok (.iconst 0, 1) := by decide +kernel
theorem dL_hailShare_2 : decode cL_hailShare 2 = .ok (.aload_n 0, 1) := by decide +kernel
theorem dL_hailShare_3 : decode cL_hailShare 3 = .ok (.invokevirtual 120, 3) := by decide +kernel
theorem dL_hailShare_6 : decode cL_hailShare 6 = .ok (.f2d, 1) := by decide +kernel
theorem dL_hailShare_7 : decode cL_hailShare 7 = .ok (.dastore, 1) := by decide +kernel
theorem dL_hailShare_8 : decode cL_hailShare 8 = .ok (.goto 6, 3) := by decide +kernel
theorem dL_hailShare_11 : decode cL_hailShare 11 = .ok (.astore_n 2, 1) := by decide +kernel
theorem dL_hailShare_12 : decode cL_hailShare 12 = .ok (.iconst 1, 1) := by decide +kernel
theorem dL_hailShare_13 : decode cL_hailShare 13 = .ok (.ireturn, 1) := by decide +kernel
theorem dL_hailShare_14 : decode cL_hailShare 14 = .ok (.iconst 0, 1) := by decide +kernel
theorem dL_hailShare_15 : decode cL_hailShare 15 = .ok (.ireturn, 1) := by decide +kernel
theorem dL_account_0 : decode cL_account 0 = .ok (.aload_n 2, 1) := by decide +kernel
theorem dL_account_1 : decode cL_account 1 = .ok (.iconst 0, 1) := by decide +kernel
theorem dL_account_2 : decode cL_account 2 = .ok (.aload_n 0, 1) := by decide +kernel
theorem dL_account_3 : decode cL_account 3 = .ok (.iload_n 1, 1) := by decide +kernel
theorem dL_account_4 : decode cL_account 4 = .ok (.invokevirtual 124, 3) := by decide +kernel
theorem dL_account_7 : decode cL_account 7 = .ok (.i2l, 1) := by decide +kernel
theorem dL_account_8 : decode cL_account 8 = .ok (.lastore, 1) := by decide +kernel
theorem dL_account_9 : decode cL_account 9 = .ok (.goto 6, 3) := by decide +kernel
theorem dL_account_12 : decode cL_account 12 = .ok (.astore_n 3, 1) := by decide +kernel
theorem dL_account_13 : decode cL_account 13 = .ok (.iconst 1, 1) := by decide +kernel
theorem dL_account_14 : decode cL_account 14 = .ok (.ireturn, 1) := by decide +kernel
theorem dL_account_15 : decode cL_account 15 = .ok (.iconst 0, 1) := by decide +kernel
theorem dL_account_16 : decode cL_account 16 = .ok (.ireturn, 1) := by decide +kernel
theorem dL_undo_0 : decode cL_undo 0 = .ok (.aload_n 1, 1) := by decide +kernel
theorem dL_undo_1 : decode cL_undo 1 = .ok (.iconst 0, 1) := by decide +kernel
theorem dL_undo_2 : decode cL_undo 2 = .ok (.aload_n 0, 1) := by decide +kernel
theorem dL_undo_3 : decode cL_undo 3 = .ok (.invokevirtual 127, 3) := by decide +kernel
theorem dL_undo_6 : decode cL_undo 6 = .ok (.i2l, 1) := by decide +kernel
theorem dL_undo_7 : decode cL_undo 7 = .ok (.lastore, 1) := by decide +kernel
theorem dL_undo_8 : decode cL_undo 8 = .ok (.goto 6, 3) := by decide +kernel
theorem dL_undo_11 : decode cL_undo 11 = .ok (.astore_n 2, 1) := by decide +kernel
theorem dL_undo_12 : decode cL_undo 12 = .ok (.iconst 1, 1) := by decide +kernel
theorem dL_undo_13 : decode cL_undo 13 = .ok (.ireturn, 1) := by decide +kernel
theorem dL_undo_14 : decode cL_undo 14 = .ok (.iconst 0, 1) := by decide +kernel
theorem dL_undo_15 : decode cL_undo 15 = .ok (.ireturn, 1) := by decide +kernel
theorem dL_restore_0 : decode cL_restore 0 = .ok (.aload_n 1, 1) := by decide +kernel
theorem dL_restore_1 : decode cL_restore 1 = .ok (.iconst 0, 1) := by decide +kernel
theorem dL_restore_2 : decode cL_restore 2 = .ok (.aload_n 0, 1) := by decide +kernel
theorem dL_restore_3 : decode cL_restore 3 = .ok (.invokevirtual 130, 3) := by decide +kernel
theorem dL_restore_6 : decode cL_restore 6 = .ok (.i2l, 1) := by decide +kernel
theorem dL_restore_7 : decode cL_restore 7 = .ok (.lastore, 1) := by decide +kernel
theorem dL_restore_8 : decode cL_restore 8 = .ok (.goto 6, 3) := by decide +kernel
theorem dL_restore_11 : decode cL_restore 11 = .ok (.astore_n 2, 1) := by decide +kernel
theorem dL_restore_12 : decode cL_restore 12 = .ok (.iconst 1, 1) := by decide +kernel
theorem dL_restore_13 : decode cL_restore 13 = .ok (.ireturn, 1) := by decide +kernel
theorem dL_restore_14 : decode cL_restore 14 = .ok (.iconst 0, 1) := by decide +kernel
theorem dL_restore_15 : decode cL_restore 15 = .ok (.ireturn, 1) := by decide +kernel
