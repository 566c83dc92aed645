theorem dL_storm_0 : decode cL_storm 0 = .ok (.aload_n 0, 1) := by decide +kernel
theorem dL_storm_1 : decode cL_storm 1 = .ok (.iload_n 1, 1) := by decide +kernel
theorem dL_storm_2 : decode cL_storm 2 = .ok (.iload_n 2, 1) := by decide +kernel
theorem dL_storm_3 : decode cL_storm 3 = .ok (.invokevirtual 14, 3) := by decide +kernel
theorem dL_storm_6 : decode cL_storm 6 = .ok (.ireturn, 1) := by decide +kernel
theorem dL_storm_7 : decode cL_storm 7 = .ok (.astore_n 3, 1) := by decide +kernel
theorem dL_storm_8 : decode cL_storm 8 = .ok (.bipush (-76), 2) := by decide +kernel
theorem dL_storm_10 : decode cL_storm 10 = .ok (.ireturn, 1) := by decide +kernel
theorem dL_barrel_0 : decode cL_barrel 0 = .ok (.aload_n 0, 1) := by decide +kernel
theorem dL_barrel_1 : decode cL_barrel 1 = .ok (.iload_n 1, 1) := by decide +kernel
theorem dL_barrel_2 : decode cL_barrel 2 = .ok (.invokevirtual 22, 3) := by decide +kernel
theorem dL_barrel_5 : decode cL_barrel 5 = .ok (.ireturn, 1) := by decide +kernel
theorem dL_barrel_6 : decode cL_barrel 6 = .ok (.astore_n 2, 1) := by decide +kernel
theorem dL_barrel_7 : decode cL_barrel 7 = .ok (.bipush (-76), 2) := by decide +kernel
theorem dL_barrel_9 : decode cL_barrel 9 = .ok (.ireturn, 1) := by decide +kernel
theorem dL_takeAway_0 : decode cL_takeAway 0 = .ok (.aload_n 0, 1) := by decide +kernel
theorem dL_takeAway_1 : decode cL_takeAway 1 = .ok (.iload_n 1, 1) := by decide +kernel
theorem dL_takeAway_2 : decode cL_takeAway 2 = .ok (.invokevirtual 26, 3) := by decide +kernel
theorem dL_takeAway_5 : decode cL_takeAway 5 = .ok (.ireturn, 1) := by decide +kernel
theorem dL_takeAway_6 : decode cL_takeAway 6 = .ok (.astore_n 2, 1) := by decide +kernel
theorem dL_takeAway_7 : decode cL_takeAway 7 = .ok (.bipush (-76), 2) := by decide +kernel
theorem dL_takeAway_9 : decode cL_takeAway 9 = .ok (.ireturn, 1) := by decide +kernel
theorem dL_pour_0 : decode cL_pour 0 = .ok (.aload_n 0, 1) := by decide +kernel
theorem dL_pour_1 : decode cL_pour 1 = .ok (.iload_n 1, 1) := by decide +kernel
theorem dL_pour_2 : decode cL_pour 2 = .ok (.iload_n 2, 1) := by decide +kernel
theorem dL_pour_3 : decode cL_pour 3 = .ok (.iload_n 3, 1) := by decide +kernel
theorem dL_pour_4 : decode cL_pour 4 = .ok (.invokevirtual 29, 3) := by decide +kernel
theorem dL_pour_7 : decode cL_pour 7 = .ok (.ireturn, 1) := by decide +kernel
theorem dL_pour_8 : decode cL_pour 8 = .ok (.astore 4, 2) := by decide +kernel
theorem dL_pour_10 : decode cL_pour 10 = .ok (.bipush (-76), 2) := by decide +kernel
theorem dL_pour_12 : decode cL_pour 12 = .ok (.ireturn, 1) := by decide +kernel
theorem dL_hail_0 : decode cL_hail 0 = .ok (.aload_n 0, 1) := by decide +kernel
theorem dL_hail_1 : decode cL_hail 1 = .ok (.iload_n 1, 1) := by decide +kernel
theorem dL_hail_2 : decode cL_hail 2 = .ok (.iload_n 2, 1) := by decide +kernel
theorem dL_hail_3 : decode cL_hail 3 = .ok (.invokevirtual 33, 3) := by decide +kernel
theorem dL_hail_6 : decode cL_hail 6 = .ok (.ireturn, 1) := by decide +kernel
theorem dL_hail_7 : decode cL_hail 7 = .ok (.astore_n 3, 1) := by decide +kernel
theorem dL_hail_8 : decode cL_hail 8 = .ok (.bipush (-76), 2) := by decide +kernel
theorem dL_hail_10 : decode cL_hail 10 = .ok (.ireturn, 1) := by decide +kernel
theorem dL_sommelier_0 : decode cL_sommelier 0 = .ok (.aload_n 0, 1) := by decide +kernel
theorem dL_sommelier_1 : decode cL_sommelier 1 = .ok (.iload_n 1, 1) := by decide +kernel
theorem dL_sommelier_2 : decode cL_sommelier 2 = .ok (.iload_n 2, 1) := by decide +kernel
theorem dL_sommelier_3 : decode cL_sommelier 3 = .ok (.invokevirtual 36, 3) := by decide +kernel
theorem dL_sommelier_6 : decode cL_sommelier 6 = .ok (.ireturn, 1) := by decide +kernel
theorem dL_sommelier_7 : decode cL_sommelier 7 = .ok (.astore_n 3, 1) := by decide +kernel
theorem dL_sommelier_8 : decode cL_sommelier 8 = .ok (.bipush (-76), 2) := by decide +kernel
theorem dL_sommelier_10 : decode cL_sommelier 10 = .ok (.ireturn, 1) := by decide +kernel
theorem dL_leave_0 : decode cL_leave 0 = .ok (.aload_n 0, 1) := by decide +kernel
theorem dL_leave_1 : decode cL_leave 1 = .ok (.iload_n 1, 1) := by decide +kernel
theorem dL_leave_2 : decode cL_leave 2 = .ok (.invokevirtual 40, 3) := by decide +kernel
theorem dL_leave_5 : decode cL_leave 5 = .ok (.ireturn, 1) := by decide +kernel
theorem dL_leave_6 : decode cL_leave 6 = .ok (.astore_n 2, 1) := by decide +kernel
theorem dL_leave_7 : decode cL_leave 7 = .ok (.bipush (-76), 2) := by decide +kernel
theorem dL_leave_9 : decode cL_leave 9 = .ok (.ireturn, 1) := by decide +kernel
theorem dL_drink_0 : decode cL_drink 0 = .ok (.aload_n 0, 1) := by decide +kernel
theorem dL_drink_1 : decode cL_drink 1 = .ok (.iload_n 1, 1) := by decide +kernel
theorem dL_drink_2 : decode cL_drink 2 = .ok (.invokevirtual 43, 3) := by decide +kernel
theorem dL_drink_5 : decode cL_drink 5 = .ok (.ireturn, 1) := by decide +kernel
theorem dL_drink_6 : decode cL_drink 6 = .ok (.astore_n 2, 1) := by decide +kernel
theorem dL_drink_7 : decode cL_drink 7 = .ok (.bipush (-76), 2) := by decide +kernel
theorem dL_drink_9 : decode cL_drink 9 = .ok (.ireturn, 1) := by decide +kernel
theorem dL_clear_0 : decode cL_clear 0 = .ok (.aload_n 0, 1) := by decide +kernel
theorem dL_clear_1 : decode cL_clear 1 = .ok (.iload_n 1, 1) := by decide +kernel
theorem dL_clear_2 : decode cL_clear 2 = .ok (.invokevirtual 46, 3) := by decide +kernel
theorem dL_clear_5 : decode cL_clear 5 = .ok (.ireturn, 1) := by decide +kernel
theorem dL_clear_6 : decode cL_clear 6 = .ok (.astore_n 2, 1) := by decide +kernel
theorem dL_clear_7 : decode cL_clear 7 = .ok (.bipush (-76), 2) := by decide +kernel
theorem dL_clear_9 : decode cL_clear 9 = .ok (.ireturn, 1) := by decide +kernel
theorem dL_roofOf_0 : decode cL_roofOf 0 = .ok (.aload_n 0, 1) := by decide +kernel
theorem dL_roofOf_1 : decode cL_roofOf 1 = .ok (.iload_n 1, 1) := by decide +kernel
theorem dL_roofOf_2 : decode cL_roofOf 2 = .ok (.iload_n 2, 1) := by decide +kernel
theorem dL_roofOf_3 : decode cL_roofOf 3 = .ok (.invokevirtual 49, 3) := by decide +kernel
theorem dL_roofOf_6 : decode cL_roofOf 6 = .ok (.ireturn, 1) := by decide +kernel
theorem dL_roofOf_7 : decode cL_roofOf 7 = .ok (.astore_n 3, 1) := by decide +kernel
theorem dL_roofOf_8 : decode cL_roofOf 8 = .ok (.bipush (-77), 2) := by decide +kernel
theorem dL_roofOf_10 : decode cL_roofOf 10 = .ok (.ireturn, 1) := by decide +kernel
theorem dL_roofOf_11 : decode cL_roofOf 11 = .ok (.astore_n 3, 1) := by decide +kernel
theorem dL_roofOf_12 : decode cL_roofOf 12 = .ok (.bipush (-78), 2) := by decide +kernel
theorem dL_roofOf_14 : decode cL_roofOf 14 = .ok (.ireturn, 1) := by decide +kernel
theorem dL_barrelOf_0 : decode cL_barrelOf 0 = .ok (.aload_n 0, 1) := by decide +kernel
theorem dL_barrelOf_1 : decode cL_barrelOf 1 = .ok (.iload_n 1, 1) := by decide +kernel
theorem dL_barrelOf_2 : decode cL_barrelOf 2 = .ok (.iload_n 2, 1) := by decide +kernel
theorem dL_barrelOf_3 : decode cL_barrelOf 3 = .ok (.invokevirtual 56, 3) := by decide +kernel
theorem dL_barrelOf_6 : decode cL_barrelOf 6 = .ok (.ireturn, 1) := by decide +kernel
theorem dL_barrelOf_7 : decode cL_barrelOf 7 = .ok (.astore_n 3, 1) := by decide +kernel
theorem dL_barrelOf_8 : decode cL_barrelOf 8 = .ok (.bipush (-77), 2) := by decide +kernel
theorem dL_barrelOf_10 : decode cL_barrelOf 10 = .ok (.ireturn, 1) := by decide +kernel
theorem dL_barrelOf_11 : decode cL_barrelOf 11 = .ok (.astore_n 3, 1) := by decide +kernel
theorem dL_barrelOf_12 : decode cL_barrelOf 12 = .ok (.bipush (-78), 2) := by decide +kernel
theorem dL_barrelOf_14 : decode cL_barrelOf 14 = .ok (.ireturn, 1) := by decide +kernel
theorem dL_note_0 : decode cL_note 0 = .ok (.aload_n 0, 1) := by decide +kernel
theorem dL_note_1 : decode cL_note 1 = .ok (.iload_n 1, 1) := by decide +kernel
theorem dL_note_2 : decode cL_note 2 = .ok (.invokevirtual 59, 3) := by decide +kernel
theorem dL_note_5 : decode cL_note 5 = .ok (.ireturn, 1) := by decide +kernel
theorem dL_note_6 : decode cL_note 6 = .ok (.astore_n 2, 1) := by decide +kernel
theorem dL_note_7 : decode cL_note 7 = .ok (.bipush (-77), 2) := by decide +kernel
theorem dL_note_9 : decode cL_note 9 = .ok (.ireturn, 1) := by decide +kernel
theorem dL_note_10 : decode cL_note 10 = .ok (.astore_n 2, 1) := by decide +kernel
theorem dL_note_11 : decode cL_note 11 = .ok (.bipush (-75), 2) := by decide +kernel
theorem dL_note_13 : decode cL_note 13 = .ok (.ireturn, 1) := by decide +kernel
theorem dL_noteAgain_0 : decode cL_noteAgain 0 = .ok (.aload_n 0, 1) := by decide +kernel
theorem dL_noteAgain_1 : decode cL_noteAgain 1 = .ok (.iload_n 1, 1) := by decide +kernel
theorem dL_noteAgain_2 : decode cL_noteAgain 2 = .ok (.invokevirtual 64, 3) := by decide +kernel
theorem dL_noteAgain_5 : decode cL_noteAgain 5 = .ok (.ireturn, 1) := by decide +kernel
theorem dL_noteAgain_6 : decode cL_noteAgain 6 = .ok (.astore_n 2, 1) := by decide +kernel
theorem dL_noteAgain_7 : decode cL_noteAgain 7 = .ok (.bipush (-77), 2) := by decide +kernel
theorem dL_noteAgain_9 : decode cL_noteAgain 9 = .ok (.ireturn, 1) := by decide +kernel
theorem dL_noteAgain_10 : decode cL_noteAgain 10 = .ok (.astore_n 2, 1) := by decide +kernel
theorem dL_noteAgain_11 : decode cL_noteAgain 11 = .ok (.bipush (-75), 2) := by decide +kernel
theorem dL_noteAgain_13 : decode cL_noteAgain 13 = .ok (.ireturn, 1) := by decide +kernel
theorem dL_noteIn_0 : decode cL_noteIn 0 = .ok (.aload_n 0, 1) := by decide +kernel
theorem dL_noteIn_1 : decode cL_noteIn 1 = .ok (.iload_n 1, 1) := by decide +kernel
theorem dL_noteIn_2 : decode cL_noteIn 2 = .ok (.iload_n 2, 1) := by decide +kernel
theorem dL_noteIn_3 : decode cL_noteIn 3 = .ok (.invokevirtual 67, 3) := by decide +kernel
theorem dL_noteIn_6 : decode cL_noteIn 6 = .ok (.ireturn, 1) := by decide +kernel
theorem dL_noteIn_7 : decode cL_noteIn 7 = .ok (.astore_n 3, 1) := by decide +kernel
theorem dL_noteIn_8 : decode cL_noteIn 8 = .ok (.bipush (-77), 2) := by decide +kernel
theorem dL_noteIn_10 : decode cL_noteIn 10 = .ok (.ireturn, 1) := by decide +kernel
theorem dL_noteIn_11 : decode cL_noteIn 11 = .ok (.astore_n 3, 1) := by decide +kernel
theorem dL_noteIn_12 : decode cL_noteIn 12 = .ok (.bipush (-75), 2) := by decide +kernel
theorem dL_noteIn_14 : decode cL_noteIn 14 = .ok (.ireturn, 1) := by decide +kernel
theorem dL_noteIn_15 : decode cL_noteIn 15 = .ok (.astore_n 3, 1) := by decide +kernel
theorem dL_noteIn_16 : decode cL_noteIn 16 = .ok (.bipush (-78), 2) := by decide +kernel
theorem dL_noteIn_18 : decode cL_noteIn 18 = .ok (.ireturn, 1) := by decide +kernel
theorem dL_notices_0 : decode cL_notices 0 = .ok (.aload_n 0, 1) := by decide +kernel
theorem dL_notices_1 : decode cL_notices 1 = .ok (.iload_n 1, 1) := by decide +kernel
theorem dL_notices_2 : decode cL_notices 2 = .ok (.iload_n 2, 1) := by decide +kernel
theorem dL_notices_3 : decode cL_notices 3 = .ok (.invokevirtual 70, 3) := by decide +kernel
theorem dL_notices_6 : decode cL_notices 6 = .ok (.ifCond .eq 7, 3) := by decide +kernel
theorem dL_notices_9 : decode cL_notices 9 = .ok (.iconst 1, 1) := by decide +kernel
theorem dL_notices_10 : decode cL_notices 10 = .ok (.goto 4, 3) := by decide +kernel
theorem dL_notices_13 : decode cL_notices 13 = .ok (.iconst 0, 1) := by decide +kernel
theorem dL_notices_14 : decode cL_notices 14 = .ok (.ireturn, 1) := by decide +kernel
theorem dL_notices_15 : decode cL_notices 15 = .ok (.astore_n 3, 1) := by decide +kernel
theorem dL_notices_16 : decode cL_notices 16 = .ok (.bipush (-77), 2) := by decide +kernel
theorem dL_notices_18 : decode cL_notices 18 = .ok (.ireturn, 1) := by decide +kernel
theorem dL_noticing_0 : decode cL_noticing 0 = .ok (.aload_n 0, 1) := by decide +kernel
theorem dL_noticing_1 : decode cL_noticing 1 = .ok (.iload_n 1, 1) := by decide +kernel
theorem dL_noticing_2 : decode cL_noticing 2 = .ok (.invokevirtual 74, 3) := by decide +kernel
theorem dL_noticing_5 : decode cL_noticing 5 = .ok (.ireturn, 1) := by decide +kernel
theorem dL_noticing_6 : decode cL_noticing 6 = .ok (.astore_n 2, 1) := by decide +kernel
theorem dL_noticing_7 : decode cL_noticing 7 = .ok (.bipush (-77), 2) := by decide +kernel
theorem dL_noticing_9 : decode cL_noticing 9 = .ok (.ireturn, 1) := by decide +kernel
theorem dL_hidden_0 : decode cL_hidden 0 = .ok (.aload_n 0, 1) := by decide +kernel
theorem dL_hidden_1 : decode cL_hidden 1 = .ok (.iload_n 1, 1) := by decide +kernel
theorem dL_hidden_2 : decode cL_hidden 2 = .ok (.invokevirtual 77, 3) := by decide +kernel
theorem dL_hidden_5 : decode cL_hidden 5 = .ok (.ireturn, 1) := by decide +kernel
theorem dL_hidden_6 : decode cL_hidden 6 = .ok (.astore_n 2, 1) := by decide +kernel
theorem dL_hidden_7 : decode cL_hidden 7 = .ok (.bipush (-77), 2) := by decide +kernel
theorem dL_hidden_9 : decode cL_hidden 9 = .ok (.ireturn, 1) := by decide +kernel
theorem dL_hidden_10 : decode cL_hidden 10 = .ok (.astore_n 2, 1) := by decide +kernel
theorem dL_hidden_11 : decode cL_hidden 11 = .ok (.bipush (-75), 2) := by decide +kernel
theorem dL_hidden_13 : decode cL_hidden 13 = .ok (.ireturn, 1) := by decide +kernel
theorem dL_hiddenAgain_0 : decode cL_hiddenAgain 0 = .ok (.aload_n 0, 1) := by decide +kernel
theorem dL_hiddenAgain_1 : decode cL_hiddenAgain 1 = .ok (.iload_n 1, 1) := by decide +kernel
theorem dL_hiddenAgain_2 : decode cL_hiddenAgain 2 = .ok (.invokevirtual 80, 3) := by decide +kernel
theorem dL_hiddenAgain_5 : decode cL_hiddenAgain 5 = .ok (.ireturn, 1) := by decide +kernel
theorem dL_hiddenAgain_6 : decode cL_hiddenAgain 6 = .ok (.astore_n 2, 1) := by decide +kernel
theorem dL_hiddenAgain_7 : decode cL_hiddenAgain 7 = .ok (.bipush (-77), 2) := by decide +kernel
theorem dL_hiddenAgain_9 : decode cL_hiddenAgain 9 = .ok (.ireturn, 1) := by decide +kernel
theorem dL_hiddenAgain_10 : decode cL_hiddenAgain 10 = .ok (.astore_n 2, 1) := by decide +kernel
theorem dL_hiddenAgain_11 : decode cL_hiddenAgain 11 = .ok (.bipush (-75), 2) := by decide +kernel
theorem dL_hiddenAgain_13 : decode cL_hiddenAgain 13 = .ok (.ireturn, 1) := by decide +kernel
theorem dL_wouldCatch_0 : decode cL_wouldCatch 0 = .ok (.aload_n 0, 1) := by decide +kernel
theorem dL_wouldCatch_1 : decode cL_wouldCatch 1 = .ok (.iload_n 1, 1) := by decide +kernel
theorem dL_wouldCatch_2 : decode cL_wouldCatch 2 = .ok (.invokevirtual 83, 3) := by decide +kernel
theorem dL_wouldCatch_5 : decode cL_wouldCatch 5 = .ok (.ireturn, 1) := by decide +kernel
theorem dL_wouldCatch_6 : decode cL_wouldCatch 6 = .ok (.astore_n 2, 1) := by decide +kernel
theorem dL_wouldCatch_7 : decode cL_wouldCatch 7 = .ok (.bipush (-78), 2) := by decide +kernel
theorem dL_wouldCatch_9 : decode cL_wouldCatch 9 = .ok (.ireturn, 1) := by decide +kernel
theorem dL_wouldLose_0 : decode cL_wouldLose 0 = .ok (.aload_n 0, 1) := by decide +kernel
theorem dL_wouldLose_1 : decode cL_wouldLose 1 = .ok (.iload_n 1, 1) := by decide +kernel
theorem dL_wouldLose_2 : decode cL_wouldLose 2 = .ok (.invokevirtual 86, 3) := by decide +kernel
theorem dL_wouldLose_5 : decode cL_wouldLose 5 = .ok (.ireturn, 1) := by decide +kernel
theorem dL_wouldLose_6 : decode cL_wouldLose 6 = .ok (.astore_n 2, 1) := by decide +kernel
theorem dL_wouldLose_7 : decode cL_wouldLose 7 = .ok (.bipush (-78), 2) := by decide +kernel
theorem dL_wouldLose_9 : decode cL_wouldLose 9 = .ok (.ireturn, 1) := by decide +kernel
theorem dL_vintage_0 : decode cL_vintage 0 = .ok (.aload_n 0, 1) := by decide +kernel
theorem dL_vintage_1 : decode cL_vintage 1 = .ok (.iload_n 1, 1) := by decide +kernel
theorem dL_vintage_2 : decode cL_vintage 2 = .ok (.invokevirtual 89, 3) := by decide +kernel
theorem dL_vintage_5 : decode cL_vintage 5 = .ok (.ireturn, 1) := by decide +kernel
theorem dL_vintage_6 : decode cL_vintage 6 = .ok (.astore_n 2, 1) := by decide +kernel
theorem dL_vintage_7 : decode cL_vintage 7 = .ok (.bipush (-75), 2) := by decide +kernel
theorem dL_vintage_9 : decode cL_vintage 9 = .ok (.ireturn, 1) := by decide +kernel
theorem dL_stormOf_0 : decode cL_stormOf 0 = .ok (.aload_n 0, 1) := by decide +kernel
theorem dL_stormOf_1 : decode cL_stormOf 1 = .ok (.iload_n 1, 1) := by decide +kernel
theorem dL_stormOf_2 : decode cL_stormOf 2 = .ok (.iload_n 2, 1) := by decide +kernel
theorem dL_stormOf_3 : decode cL_stormOf 3 = .ok (.invokevirtual 92, 3) := by decide +kernel
theorem dL_stormOf_6 : decode cL_stormOf 6 = .ok (.ireturn, 1) := by decide +kernel
theorem dL_stormOf_7 : decode cL_stormOf 7 = .ok (.astore_n 3, 1) := by decide +kernel
theorem dL_stormOf_8 : decode cL_stormOf 8 = .ok (.bipush (-75), 2) := by decide +kernel
theorem dL_stormOf_10 : decode cL_stormOf 10 = .ok (.ireturn, 1) := by decide +kernel
theorem dL_stormOf_11 : decode cL_stormOf 11 = .ok (.astore_n 3, 1) := by decide +kernel
theorem dL_stormOf_12 : decode cL_stormOf 12 = .ok (.bipush (-78), 2) := by decide +kernel
theorem dL_stormOf_14 : decode cL_stormOf 14 = .ok (.ireturn, 1) := by decide +kernel
theorem dL_canPour_0 : decode cL_canPour 0 = .ok (.aload_n 0, 1) := by decide +kernel
theorem dL_canPour_1 : decode cL_canPour 1 = .ok (.iload_n 1, 1) := by decide +kernel
theorem dL_canPour_2 : decode cL_canPour 2 = .ok (.iload_n 2, 1) := by decide +kernel
theorem dL_canPour_3 : decode cL_canPour 3 = .ok (.invokevirtual 95, 3) := by decide +kernel
theorem dL_canPour_6 : decode cL_canPour 6 = .ok (.ifCond .eq 7, 3) := by decide +kernel
theorem dL_canPour_9 : decode cL_canPour 9 = .ok (.iconst 1, 1) := by decide +kernel
theorem dL_canPour_10 : decode cL_canPour 10 = .ok (.goto 4, 3) := by decide +kernel
theorem dL_canPour_13 : decode cL_canPour 13 = .ok (.iconst 0, 1) := by decide +kernel
theorem dL_canPour_14 : decode cL_canPour 14 = .ok (.ireturn, 1) := by decide +kernel
theorem dL_canPour_15 : decode cL_canPour 15 = .ok (.astore_n 3, 1) := by decide +kernel
theorem dL_canPour_16 : decode cL_canPour 16 = .ok (.bipush (-77), 2) := by decide +kernel
theorem dL_canPour_18 : decode cL_canPour 18 = .ok (.ireturn, 1) := by decide +kernel
theorem dL_ranked_0 : decode cL_ranked 0 = .ok (.aload_n 0, 1) := by decide +kernel
theorem dL_ranked_1 : decode cL_ranked 1 = .ok (.iload_n 1, 1) := by decide +kernel
theorem dL_ranked_2 : decode cL_ranked 2 = .ok (.iload_n 2, 1) := by decide +kernel
theorem dL_ranked_3 : decode cL_ranked 3 = .ok (.invokevirtual 98, 3) := by decide +kernel
theorem dL_ranked_6 : decode cL_ranked 6 = .ok (.ireturn, 1) := by decide +kernel
theorem dL_ranked_7 : decode cL_ranked 7 = .ok (.astore_n 3, 1) := by decide +kernel
theorem dL_ranked_8 : decode cL_ranked 8 = .ok (.bipush (-78), 2) := by decide +kernel
theorem dL_ranked_10 : decode cL_ranked 10 = .ok (.ireturn, 1) := by decide +kernel
theorem dL_ranked_11 : decode cL_ranked 11 = .ok (.astore_n 3, 1) := by decide +kernel
theorem dL_ranked_12 : decode cL_ranked 12 = .ok (.bipush (-75), 2) := by decide +kernel
theorem dL_ranked_14 : decode cL_ranked 14 = .ok (.ireturn, 1) := by decide +kernel
theorem dL_append_0 : decode cL_append 0 = .ok (.aload_n 0, 1) := by decide +kernel
theorem dL_append_1 : decode cL_append 1 = .ok (.iload_n 1, 1) := by decide +kernel
theorem dL_append_2 : decode cL_append 2 = .ok (.invokevirtual 101, 3) := by decide +kernel
theorem dL_append_5 : decode cL_append 5 = .ok (.ireturn, 1) := by decide +kernel
theorem dL_append_6 : decode cL_append 6 = .ok (.astore_n 2, 1) := by decide +kernel
theorem dL_append_7 : decode cL_append 7 = .ok (.bipush (-79), 2) := by decide +kernel
theorem dL_append_9 : decode cL_append 9 = .ok (.ireturn, 1) := by decide +kernel
theorem dL_commands_0 : decode cL_commands 0 = .ok (.aload_n 0, 1) := by decide +kernel
theorem dL_commands_1 : decode cL_commands 1 = .ok (.invokevirtual 107, 3) := by decide +kernel
theorem dL_commands_4 : decode cL_commands 4 = .ok (.ireturn, 1) := by decide +kernel
theorem dL_commands_5 : decode cL_commands 5 = .ok (.astore_n 1, 1) := by decide +kernel
theorem dL_commands_6 : decode cL_commands 6 = .ok (.bipush (-78), 2) := by decide +kernel
theorem dL_commands_8 : decode cL_commands 8 = .ok (.ireturn, 1) := by decide +kernel
theorem dL_commands_9 : decode cL_commands 9 = .ok (.astore_n 1, 1) := by decide +kernel
theorem dL_commands_10 : decode cL_commands 10 = .ok (.bipush (-76), 2) := by decide +kernel
theorem dL_commands_12 : decode cL_commands 12 = .ok (.ireturn, 1) := by decide +kernel
theorem dL_line_0 : decode cL_line 0 = .ok (.aload_n 0, 1) := by decide +kernel
theorem dL_line_1 : decode cL_line 1 = .ok (.iload_n 1, 1) := by decide +kernel
theorem dL_line_2 : decode cL_line 2 = .ok (.invokevirtual 114, 3) := by decide +kernel
theorem dL_line_5 : decode cL_line 5 = .ok (.ireturn, 1) := by decide +kernel
theorem dL_line_6 : decode cL_line 6 = .ok (.astore_n 2, 1) := by decide +kernel
theorem dL_line_7 : decode cL_line 7 = .ok (.bipush (-77), 2) := by decide +kernel
theorem dL_line_9 : decode cL_line 9 = .ok (.ireturn, 1) := by decide +kernel
theorem dL_character_0 : decode cL_character 0 = .ok (.aload_n 0, 1) := by decide +kernel
theorem dL_character_1 : decode cL_character 1 = .ok (.iload_n 1, 1) := by decide +kernel
theorem dL_character_2 : decode cL_character 2 = .ok (.invokevirtual 117, 3) := by decide +kernel
theorem dL_character_5 : decode cL_character 5 = .ok (.ireturn, 1) := by decide +kernel
theorem dL_character_6 : decode cL_character 6 = .ok (.astore_n 2, 1) := by decide +kernel
theorem dL_character_7 : decode cL_character 7 = .ok (.bipush (-77), 2) := by decide +kernel
theorem dL_character_9 : decode cL_character 9 = .ok (.ireturn, 1) := by decide +kernel
theorem dL_meanNote_0 : decode cL_meanNote 0 = .ok (.aload_n 0, 1) := by decide +kernel
theorem dL_meanNote_1 : decode cL_meanNote 1 = .ok (.invokevirtual 121, 3) := by decide +kernel
theorem dL_meanNote_4 : decode cL_meanNote 4 = .ok (.dreturn, 1) := by decide +kernel
theorem dL_meanNote_5 : decode cL_meanNote 5 = .ok (.astore_n 1, 1) := by decide +kernel
theorem dL_meanNote_6 : decode cL_meanNote 6 = .ok (.ldc2_w 127, 3) := by decide +kernel
theorem dL_meanNote_9 : decode cL_meanNote 9 = .ok (.dreturn, 1) := by decide +kernel
theorem dL_hailShare_0 : decode cL_hailShare 0 = .ok (.aload_n 0, 1) := by decide +kernel
theorem dL_hailShare_1 : decode cL_hailShare 1 = .ok (.invokevirtual 129, 3) := by decide +kernel
theorem dL_hailShare_4 : decode cL_hailShare 4 = .ok (.freturn, 1) := by decide +kernel
theorem dL_hailShare_5 : decode cL_hailShare 5 = .ok (.astore_n 1, 1) := by decide +kernel
theorem dL_hailShare_6 : decode cL_hailShare 6 = .ok (.ldc 133, 2) := by decide +kernel
theorem dL_hailShare_8 : decode cL_hailShare 8 = .ok (.freturn, 1) := by decide +kernel
theorem dL_account_0 : decode cL_account 0 = .ok (.aload_n 0, 1) := by decide +kernel
theorem dL_account_1 : decode cL_account 1 = .ok (.iload_n 1, 1) := by decide +kernel
theorem dL_account_2 : decode cL_account 2 = .ok (.invokevirtual 134, 3) := by decide +kernel
theorem dL_account_5 : decode cL_account 5 = .ok (.ireturn, 1) := by decide +kernel
theorem dL_account_6 : decode cL_account 6 = .ok (.astore_n 2, 1) := by decide +kernel
theorem dL_account_7 : decode cL_account 7 = .ok (.bipush (-78), 2) := by decide +kernel
theorem dL_account_9 : decode cL_account 9 = .ok (.ireturn, 1) := by decide +kernel
theorem dL_undo_0 : decode cL_undo 0 = .ok (.aload_n 0, 1) := by decide +kernel
theorem dL_undo_1 : decode cL_undo 1 = .ok (.invokevirtual 137, 3) := by decide +kernel
theorem dL_undo_4 : decode cL_undo 4 = .ok (.ireturn, 1) := by decide +kernel
theorem dL_undo_5 : decode cL_undo 5 = .ok (.astore_n 1, 1) := by decide +kernel
theorem dL_undo_6 : decode cL_undo 6 = .ok (.bipush (-79), 2) := by decide +kernel
theorem dL_undo_8 : decode cL_undo 8 = .ok (.ireturn, 1) := by decide +kernel
theorem dL_restore_0 : decode cL_restore 0 = .ok (.aload_n 0, 1) := by decide +kernel
theorem dL_restore_1 : decode cL_restore 1 = .ok (.invokevirtual 140, 3) := by decide +kernel
theorem dL_restore_4 : decode cL_restore 4 = .ok (.ireturn, 1) := by decide +kernel
theorem dL_restore_5 : decode cL_restore 5 = .ok (.astore_n 1, 1) := by decide +kernel
theorem dL_restore_6 : decode cL_restore 6 = .ok (.bipush (-79), 2) := by decide +kernel
theorem dL_restore_8 : decode cL_restore 8 = .ok (.ireturn, 1) := by decide +kernel
