theorem dL_team_0 : decode cL_team 0 = .ok (.aload_n 2, 1) := by decide +kernel
theorem dL_team_1 : decode cL_team 1 = .ok (.iconst 0, 1) := by decide +kernel
theorem dL_team_2 : decode cL_team 2 = .ok (.aload_n 0, 1) := by decide +kernel
theorem dL_team_3 : decode cL_team 3 = .ok (.iload_n 1, 1) := by decide +kernel
theorem dL_team_4 : decode cL_team 4 = .ok (.invokevirtual 7, 3) := by decide +kernel
theorem dL_team_7 : decode cL_team 7 = .ok (.i2l, 1) := by decide +kernel
theorem dL_team_8 : decode cL_team 8 = .ok (.lastore, 1) := by decide +kernel
theorem dL_team_9 : decode cL_team 9 = .ok (.goto 6, 3) := by decide +kernel
theorem dL_team_12 : decode cL_team 12 = .ok (.astore_n 3, 1) := by decide +kernel
theorem dL_team_13 : decode cL_team 13 = .ok (.iconst 1, 1) := by decide +kernel
theorem dL_team_14 : decode cL_team 14 = .ok (.ireturn, 1) := by decide +kernel
theorem dL_team_15 : decode cL_team 15 = .ok (.iconst 0, 1) := by decide +kernel
theorem dL_team_16 : decode cL_team 16 = .ok (.ireturn, 1) := by decide +kernel
theorem dL_ground_0 : decode cL_ground 0 = .ok (.aload_n 3, 1) := by decide +kernel
theorem dL_ground_1 : decode cL_ground 1 = .ok (.iconst 0, 1) := by decide +kernel
theorem dL_ground_2 : decode cL_ground 2 = .ok (.aload_n 0, 1) := by decide +kernel
theorem dL_ground_3 : decode cL_ground 3 = .ok (.iload_n 1, 1) := by decide +kernel
theorem dL_ground_4 : decode cL_ground 4 = .ok (.iload_n 2, 1) := by decide +kernel
theorem dL_ground_5 : decode cL_ground 5 = .ok (.invokevirtual 15, 3) := by decide +kernel
theorem dL_ground_8 : decode cL_ground 8 = .ok (.i2l, 1) := by decide +kernel
theorem dL_ground_9 : decode cL_ground 9 = .ok (.lastore, 1) := by decide +kernel
theorem dL_ground_10 : decode cL_ground 10 = .ok (.goto 7, 3) := by decide +kernel
theorem dL_ground_13 : decode cL_ground 13 = .ok (.astore 4, 2) := by decide +kernel
theorem dL_ground_15 : decode cL_ground 15 = .ok (.iconst 1, 1) := by decide +kernel
theorem dL_ground_16 : decode cL_ground 16 = .ok (.ireturn, 1) := by decide +kernel
theorem dL_ground_17 : decode cL_ground 17 = .ok (.iconst 0, 1) := by decide +kernel
theorem dL_ground_18 : decode cL_ground 18 = .ok (.ireturn, 1) := by decide +kernel
theorem dL_draw_0 : decode cL_draw 0 = .ok (.aload_n 1, 1) := by decide +kernel
theorem dL_draw_1 : decode cL_draw 1 = .ok (.iconst 0, 1) := by decide +kernel
theorem dL_draw_2 : decode cL_draw 2 = .ok (.aload_n 0, 1) := by decide +kernel
theorem dL_draw_3 : decode cL_draw 3 = .ok (.invokevirtual 19, 3) := by decide +kernel
theorem dL_draw_6 : decode cL_draw 6 = .ok (.i2l, 1) := by decide +kernel
theorem dL_draw_7 : decode cL_draw 7 = .ok (.lastore, 1) := by decide +kernel
theorem dL_draw_8 : decode cL_draw 8 = .ok (.goto 6, 3) := by decide +kernel
theorem dL_draw_11 : decode cL_draw 11 = .ok (.astore_n 2, 1) := by decide +kernel
theorem dL_draw_12 : decode cL_draw 12 = .ok (.iconst 1, 1) := by decide +kernel
theorem dL_draw_13 : decode cL_draw 13 = .ok (.ireturn, 1) := by decide +kernel
theorem dL_draw_14 : decode cL_draw 14 = .ok (.iconst 0, 1) := by decide +kernel
theorem dL_draw_15 : decode cL_draw 15 = .ok (.ireturn, 1) := by decide +kernel
theorem dL_give_0 : decode cL_give 0 = .ok (.aload_n 3, 1) := by decide +kernel
theorem dL_give_1 : decode cL_give 1 = .ok (.iconst 0, 1) := by decide +kernel
theorem dL_give_2 : decode cL_give 2 = .ok (.aload_n 0, 1) := by decide +kernel
theorem dL_give_3 : decode cL_give 3 = .ok (.iload_n 1, 1) := by decide +kernel
theorem dL_give_4 : decode cL_give 4 = .ok (.iload_n 2, 1) := by decide +kernel
theorem dL_give_5 : decode cL_give 5 = .ok (.invokevirtual 23, 3) := by decide +kernel
theorem dL_give_8 : decode cL_give 8 = .ok (.i2l, 1) := by decide +kernel
theorem dL_give_9 : decode cL_give 9 = .ok (.lastore, 1) := by decide +kernel
theorem dL_give_10 : decode cL_give 10 = .ok (.goto 7, 3) := by decide +kernel
theorem dL_give_13 : decode cL_give 13 = .ok (.astore 4, 2) := by decide +kernel
theorem dL_give_15 : decode cL_give 15 = .ok (.iconst 1, 1) := by decide +kernel
theorem dL_give_16 : decode cL_give 16 = .ok (.ireturn, 1) := by decide +kernel
theorem dL_give_17 : decode cL_give 17 = .ok (.iconst 0, 1) := by decide +kernel
theorem dL_give_18 : decode cL_give 18 = .ok (.ireturn, 1) := by decide +kernel
theorem dL_rules_0 : decode cL_rules 0 = .ok (.aload 4, 2) := by decide +kernel
theorem dL_rules_2 : decode cL_rules 2 = .ok (.iconst 0, 1) := by decide +kernel
theorem dL_rules_3 : decode cL_rules 3 = .ok (.aload_n 0, 1) := by decide +kernel
theorem dL_rules_4 : decode cL_rules 4 = .ok (.iload_n 1, 1) := by decide +kernel
theorem dL_rules_5 : decode cL_rules 5 = .ok (.iload_n 2, 1) := by decide +kernel
theorem dL_rules_6 : decode cL_rules 6 = .ok (.iload_n 3, 1) := by decide +kernel
theorem dL_rules_7 : decode cL_rules 7 = .ok (.invokevirtual 26, 3) := by decide +kernel
theorem dL_rules_10 : decode cL_rules 10 = .ok (.i2l, 1) := by decide +kernel
theorem dL_rules_11 : decode cL_rules 11 = .ok (.lastore, 1) := by decide +kernel
theorem dL_rules_12 : decode cL_rules 12 = .ok (.goto 7, 3) := by decide +kernel
theorem dL_rules_15 : decode cL_rules 15 = .ok (.astore 5, 2) := by decide +kernel
theorem dL_rules_17 : decode cL_rules 17 = .ok (.iconst 1, 1) := by decide +kernel
theorem dL_rules_18 : decode cL_rules 18 = .ok (.ireturn, 1) := by decide +kernel
theorem dL_rules_19 : decode cL_rules 19 = .ok (.iconst 0, 1) := by decide +kernel
theorem dL_rules_20 : decode cL_rules 20 = .ok (.ireturn, 1) := by decide +kernel
theorem dL_result_0 : decode cL_result 0 = .ok (.aload 4, 2) := by decide +kernel
theorem dL_result_2 : decode cL_result 2 = .ok (.iconst 0, 1) := by decide +kernel
theorem dL_result_3 : decode cL_result 3 = .ok (.aload_n 0, 1) := by decide +kernel
theorem dL_result_4 : decode cL_result 4 = .ok (.iload_n 1, 1) := by decide +kernel
theorem dL_result_5 : decode cL_result 5 = .ok (.iload_n 2, 1) := by decide +kernel
theorem dL_result_6 : decode cL_result 6 = .ok (.iload_n 3, 1) := by decide +kernel
theorem dL_result_7 : decode cL_result 7 = .ok (.invokevirtual 30, 3) := by decide +kernel
theorem dL_result_10 : decode cL_result 10 = .ok (.i2l, 1) := by decide +kernel
theorem dL_result_11 : decode cL_result 11 = .ok (.lastore, 1) := by decide +kernel
theorem dL_result_12 : decode cL_result 12 = .ok (.goto 7, 3) := by decide +kernel
theorem dL_result_15 : decode cL_result 15 = .ok (.astore 5, 2) := by decide +kernel
theorem dL_result_17 : decode cL_result 17 = .ok (.iconst 1, 1) := by decide +kernel
theorem dL_result_18 : decode cL_result 18 = .ok (.ireturn, 1) := by decide +kernel
theorem dL_result_19 : decode cL_result 19 = .ok (.iconst 0, 1) := by decide +kernel
theorem dL_result_20 : decode cL_result 20 = .ok (.ireturn, 1) := by decide +kernel
theorem dL_back_0 : decode cL_back 0 = .ok (.aload_n 2, 1) := by decide +kernel
theorem dL_back_1 : decode cL_back 1 = .ok (.iconst 0, 1) := by decide +kernel
theorem dL_back_2 : decode cL_back 2 = .ok (.aload_n 0, 1) := by decide +kernel
theorem dL_back_3 : decode cL_back 3 = .ok (.iload_n 1, 1) := by decide +kernel
theorem dL_back_4 : decode cL_back 4 = .ok (.invokevirtual 33, 3) := by decide +kernel
theorem dL_back_7 : decode cL_back 7 = .ok (.i2l, 1) := by decide +kernel
theorem dL_back_8 : decode cL_back 8 = .ok (.lastore, 1) := by decide +kernel
theorem dL_back_9 : decode cL_back 9 = .ok (.goto 6, 3) := by decide +kernel
theorem dL_back_12 : decode cL_back 12 = .ok (.astore_n 3, 1) := by decide +kernel
theorem dL_back_13 : decode cL_back 13 = .ok (.iconst 1, 1) := by decide +kernel
theorem dL_back_14 : decode cL_back 14 = .ok (.ireturn, 1) := by decide +kernel
theorem dL_back_15 : decode cL_back 15 = .ok (.iconst 0, 1) := by decide +kernel
theorem dL_back_16 : decode cL_back 16 = .ok (.ireturn, 1) := by decide +kernel
theorem dL_putOff_0 : decode cL_putOff 0 = .ok (.aload_n 3, 1) := by decide +kernel
theorem dL_putOff_1 : decode cL_putOff 1 = .ok (.iconst 0, 1) := by decide +kernel
theorem dL_putOff_2 : decode cL_putOff 2 = .ok (.aload_n 0, 1) := by decide +kernel
theorem dL_putOff_3 : decode cL_putOff 3 = .ok (.iload_n 1, 1) := by decide +kernel
theorem dL_putOff_4 : decode cL_putOff 4 = .ok (.iload_n 2, 1) := by decide +kernel
theorem dL_putOff_5 : decode cL_putOff 5 = .ok (.invokevirtual 36, 3) := by decide +kernel
theorem dL_putOff_8 : decode cL_putOff 8 = .ok (.i2l, 1) := by decide +kernel
theorem dL_putOff_9 : decode cL_putOff 9 = .ok (.lastore, 1) := by decide +kernel
theorem dL_putOff_10 : decode cL_putOff 10 = .ok (.goto 7, 3) := by decide +kernel
theorem dL_putOff_13 : decode cL_putOff 13 = .ok (.astore 4, 2) := by decide +kernel
theorem dL_putOff_15 : decode cL_putOff 15 = .ok (.iconst 1, 1) := by decide +kernel
theorem dL_putOff_16 : decode cL_putOff 16 = .ok (.ireturn, 1) := by decide +kernel
theorem dL_putOff_17 : decode cL_putOff 17 = .ok (.iconst 0, 1) := by decide +kernel
theorem dL_putOff_18 : decode cL_putOff 18 = .ok (.ireturn, 1) := by decide +kernel
theorem dL_next_0 : decode cL_next 0 = .ok (.aload_n 1, 1) := by decide +kernel
theorem dL_next_1 : decode cL_next 1 = .ok (.iconst 0, 1) := by decide +kernel
theorem dL_next_2 : decode cL_next 2 = .ok (.aload_n 0, 1) := by decide +kernel
theorem dL_next_3 : decode cL_next 3 = .ok (.invokevirtual 39, 3) := by decide +kernel
theorem dL_next_6 : decode cL_next 6 = .ok (.i2l, 1) := by decide +kernel
theorem dL_next_7 : decode cL_next 7 = .ok (.lastore, 1) := by decide +kernel
theorem dL_next_8 : decode cL_next 8 = .ok (.goto 6, 3) := by decide +kernel
theorem dL_next_11 : decode cL_next 11 = .ok (.astore_n 2, 1) := by decide +kernel
theorem dL_next_12 : decode cL_next 12 = .ok (.iconst 1, 1) := by decide +kernel
theorem dL_next_13 : decode cL_next 13 = .ok (.ireturn, 1) := by decide +kernel
theorem dL_next_14 : decode cL_next 14 = .ok (.iconst 0, 1) := by decide +kernel
theorem dL_next_15 : decode cL_next 15 = .ok (.ireturn, 1) := by decide +kernel
theorem dL_teamOf_0 : decode cL_teamOf 0 = .ok (.aload_n 3, 1) := by decide +kernel
theorem dL_teamOf_1 : decode cL_teamOf 1 = .ok (.iconst 0, 1) := by decide +kernel
theorem dL_teamOf_2 : decode cL_teamOf 2 = .ok (.aload_n 0, 1) := by decide +kernel
theorem dL_teamOf_3 : decode cL_teamOf 3 = .ok (.iload_n 1, 1) := by decide +kernel
theorem dL_teamOf_4 : decode cL_teamOf 4 = .ok (.iload_n 2, 1) := by decide +kernel
theorem dL_teamOf_5 : decode cL_teamOf 5 = .ok (.invokevirtual 42, 3) := by decide +kernel
theorem dL_teamOf_8 : decode cL_teamOf 8 = .ok (.i2l, 1) := by decide +kernel
theorem dL_teamOf_9 : decode cL_teamOf 9 = .ok (.lastore, 1) := by decide +kernel
theorem dL_teamOf_10 : decode cL_teamOf 10 = .ok (.goto 11, 3) := by decide +kernel
theorem dL_teamOf_13 : decode cL_teamOf 13 = .ok (.astore 4, 2) := by decide +kernel
theorem dL_teamOf_15 : decode cL_teamOf 15 = .ok (.iconst 1, 1) := by decide +kernel
theorem dL_teamOf_16 : decode cL_teamOf 16 = .ok (.ireturn, 1) := by decide +kernel
theorem dL_teamOf_17 : decode cL_teamOf 17 = .ok (.astore 4, 2) := by decide +kernel
theorem dL_teamOf_19 : decode cL_teamOf 19 = .ok (.iconst 2, 1) := by decide +kernel
theorem dL_teamOf_20 : decode cL_teamOf 20 = .ok (.ireturn, 1) := by decide +kernel
theorem dL_teamOf_21 : decode cL_teamOf 21 = .ok (.iconst 0, 1) := by decide +kernel
theorem dL_teamOf_22 : decode cL_teamOf 22 = .ok (.ireturn, 1) := by decide +kernel
theorem dL_pointsAgain_0 : decode cL_pointsAgain 0 = .ok (.aload_n 2, 1) := by decide +kernel
theorem dL_pointsAgain_1 : decode cL_pointsAgain 1 = .ok (.iconst 0, 1) := by decide +kernel
theorem dL_pointsAgain_2 : decode cL_pointsAgain 2 = .ok (.aload_n 0, 1) := by decide +kernel
theorem dL_pointsAgain_3 : decode cL_pointsAgain 3 = .ok (.iload_n 1, 1) := by decide +kernel
theorem dL_pointsAgain_4 : decode cL_pointsAgain 4 = .ok (.invokevirtual 49, 3) := by decide +kernel
theorem dL_pointsAgain_7 : decode cL_pointsAgain 7 = .ok (.i2l, 1) := by decide +kernel
theorem dL_pointsAgain_8 : decode cL_pointsAgain 8 = .ok (.lastore, 1) := by decide +kernel
theorem dL_pointsAgain_9 : decode cL_pointsAgain 9 = .ok (.goto 6, 3) := by decide +kernel
theorem dL_pointsAgain_12 : decode cL_pointsAgain 12 = .ok (.astore_n 3, 1) := by decide +kernel
theorem dL_pointsAgain_13 : decode cL_pointsAgain 13 = .ok (.iconst 1, 1) := by decide +kernel
theorem dL_pointsAgain_14 : decode cL_pointsAgain 14 = .ok (.ireturn, 1) := by decide +kernel
theorem dL_pointsAgain_15 : decode cL_pointsAgain 15 = .ok (.iconst 0, 1) := by decide +kernel
theorem dL_pointsAgain_16 : decode cL_pointsAgain 16 = .ok (.ireturn, 1) := by decide +kernel
theorem dL_meetingOf_0 : decode cL_meetingOf 0 = .ok (.aload_n 3, 1) := by decide +kernel
theorem dL_meetingOf_1 : decode cL_meetingOf 1 = .ok (.iconst 0, 1) := by decide +kernel
theorem dL_meetingOf_2 : decode cL_meetingOf 2 = .ok (.aload_n 0, 1) := by decide +kernel
theorem dL_meetingOf_3 : decode cL_meetingOf 3 = .ok (.iload_n 1, 1) := by decide +kernel
theorem dL_meetingOf_4 : decode cL_meetingOf 4 = .ok (.iload_n 2, 1) := by decide +kernel
theorem dL_meetingOf_5 : decode cL_meetingOf 5 = .ok (.invokevirtual 52, 3) := by decide +kernel
theorem dL_meetingOf_8 : decode cL_meetingOf 8 = .ok (.i2l, 1) := by decide +kernel
theorem dL_meetingOf_9 : decode cL_meetingOf 9 = .ok (.lastore, 1) := by decide +kernel
theorem dL_meetingOf_10 : decode cL_meetingOf 10 = .ok (.goto 11, 3) := by decide +kernel
theorem dL_meetingOf_13 : decode cL_meetingOf 13 = .ok (.astore 4, 2) := by decide +kernel
theorem dL_meetingOf_15 : decode cL_meetingOf 15 = .ok (.iconst 1, 1) := by decide +kernel
theorem dL_meetingOf_16 : decode cL_meetingOf 16 = .ok (.ireturn, 1) := by decide +kernel
theorem dL_meetingOf_17 : decode cL_meetingOf 17 = .ok (.astore 4, 2) := by decide +kernel
theorem dL_meetingOf_19 : decode cL_meetingOf 19 = .ok (.iconst 2, 1) := by decide +kernel
theorem dL_meetingOf_20 : decode cL_meetingOf 20 = .ok (.ireturn, 1) := by decide +kernel
theorem dL_meetingOf_21 : decode cL_meetingOf 21 = .ok (.iconst 0, 1) := by decide +kernel
theorem dL_meetingOf_22 : decode cL_meetingOf 22 = .ok (.ireturn, 1) := by decide +kernel
theorem dL_find_0 : decode cL_find 0 = .ok (.aload_n 3, 1) := by decide +kernel
theorem dL_find_1 : decode cL_find 1 = .ok (.iconst 0, 1) := by decide +kernel
theorem dL_find_2 : decode cL_find 2 = .ok (.aload_n 0, 1) := by decide +kernel
theorem dL_find_3 : decode cL_find 3 = .ok (.iload_n 1, 1) := by decide +kernel
theorem dL_find_4 : decode cL_find 4 = .ok (.iload_n 2, 1) := by decide +kernel
theorem dL_find_5 : decode cL_find 5 = .ok (.invokevirtual 55, 3) := by decide +kernel
theorem dL_find_8 : decode cL_find 8 = .ok (.i2l, 1) := by decide +kernel
theorem dL_find_9 : decode cL_find 9 = .ok (.lastore, 1) := by decide +kernel
theorem dL_find_10 : decode cL_find 10 = .ok (.goto 11, 3) := by decide +kernel
theorem dL_find_13 : decode cL_find 13 = .ok (.astore 4, 2) := by decide +kernel
theorem dL_find_15 : decode cL_find 15 = .ok (.iconst 1, 1) := by decide +kernel
theorem dL_find_16 : decode cL_find 16 = .ok (.ireturn, 1) := by decide +kernel
theorem dL_find_17 : decode cL_find 17 = .ok (.astore 4, 2) := by decide +kernel
theorem dL_find_19 : decode cL_find 19 = .ok (.iconst 2, 1) := by decide +kernel
theorem dL_find_20 : decode cL_find 20 = .ok (.ireturn, 1) := by decide +kernel
theorem dL_find_21 : decode cL_find 21 = .ok (.iconst 0, 1) := by decide +kernel
theorem dL_find_22 : decode cL_find 22 = .ok (.ireturn, 1) := by decide +kernel
theorem dL_byeIn_0 : decode cL_byeIn 0 = .ok (.aload_n 2, 1) := by decide +kernel
theorem dL_byeIn_1 : decode cL_byeIn 1 = .ok (.iconst 0, 1) := by decide +kernel
theorem dL_byeIn_2 : decode cL_byeIn 2 = .ok (.aload_n 0, 1) := by decide +kernel
theorem dL_byeIn_3 : decode cL_byeIn 3 = .ok (.iload_n 1, 1) := by decide +kernel
theorem dL_byeIn_4 : decode cL_byeIn 4 = .ok (.invokevirtual 60, 3) := by decide +kernel
theorem dL_byeIn_7 : decode cL_byeIn 7 = .ok (.i2l, 1) := by decide +kernel
theorem dL_byeIn_8 : decode cL_byeIn 8 = .ok (.lastore, 1) := by decide +kernel
theorem dL_byeIn_9 : decode cL_byeIn 9 = .ok (.goto 9, 3) := by decide +kernel
theorem dL_byeIn_12 : decode cL_byeIn 12 = .ok (.astore_n 3, 1) := by decide +kernel
theorem dL_byeIn_13 : decode cL_byeIn 13 = .ok (.iconst 1, 1) := by decide +kernel
theorem dL_byeIn_14 : decode cL_byeIn 14 = .ok (.ireturn, 1) := by decide +kernel
theorem dL_byeIn_15 : decode cL_byeIn 15 = .ok (.astore_n 3, 1) := by decide +kernel
theorem dL_byeIn_16 : decode cL_byeIn 16 = .ok (.iconst 2, 1) := by decide +kernel
theorem dL_byeIn_17 : decode cL_byeIn 17 = .ok (.ireturn, 1) := by decide +kernel
theorem dL_byeIn_18 : decode cL_byeIn 18 = .ok (.iconst 0, 1) := by decide +kernel
theorem dL_byeIn_19 : decode cL_byeIn 19 = .ok (.ireturn, 1) := by decide +kernel
theorem dL_meetingsIn_0 : decode cL_meetingsIn 0 = .ok (.aload_n 2, 1) := by decide +kernel
theorem dL_meetingsIn_1 : decode cL_meetingsIn 1 = .ok (.iconst 0, 1) := by decide +kernel
theorem dL_meetingsIn_2 : decode cL_meetingsIn 2 = .ok (.aload_n 0, 1) := by decide +kernel
theorem dL_meetingsIn_3 : decode cL_meetingsIn 3 = .ok (.iload_n 1, 1) := by decide +kernel
theorem dL_meetingsIn_4 : decode cL_meetingsIn 4 = .ok (.invokevirtual 63, 3) := by decide +kernel
theorem dL_meetingsIn_7 : decode cL_meetingsIn 7 = .ok (.i2l, 1) := by decide +kernel
theorem dL_meetingsIn_8 : decode cL_meetingsIn 8 = .ok (.lastore, 1) := by decide +kernel
theorem dL_meetingsIn_9 : decode cL_meetingsIn 9 = .ok (.goto 6, 3) := by decide +kernel
theorem dL_meetingsIn_12 : decode cL_meetingsIn 12 = .ok (.astore_n 3, 1) := by decide +kernel
theorem dL_meetingsIn_13 : decode cL_meetingsIn 13 = .ok (.iconst 1, 1) := by decide +kernel
theorem dL_meetingsIn_14 : decode cL_meetingsIn 14 = .ok (.ireturn, 1) := by decide +kernel
theorem dL_meetingsIn_15 : decode cL_meetingsIn 15 = .ok (.iconst 0, 1) := by decide +kernel
theorem dL_meetingsIn_16 : decode cL_meetingsIn 16 = .ok (.ireturn, 1) := by decide +kernel
theorem dL_clashes_0 : decode cL_clashes 0 = .ok (.aload_n 2, 1) := by decide +kernel
theorem dL_clashes_1 : decode cL_clashes 1 = .ok (.iconst 0, 1) := by decide +kernel
theorem dL_clashes_2 : decode cL_clashes 2 = .ok (.aload_n 0, 1) := by decide +kernel
theorem dL_clashes_3 : decode cL_clashes 3 = .ok (.iload_n 1, 1) := by decide +kernel
theorem dL_clashes_4 : decode cL_clashes 4 = .ok (.invokevirtual 66, 3) := by decide +kernel
theorem dL_clashes_7 : decode cL_clashes 7 = .ok (.i2l, 1) := by decide +kernel
theorem dL_clashes_8 : decode cL_clashes 8 = .ok (.lastore, 1) := by decide +kernel
theorem dL_clashes_9 : decode cL_clashes 9 = .ok (.goto 6, 3) := by decide +kernel
theorem dL_clashes_12 : decode cL_clashes 12 = .ok (.astore_n 3, 1) := by decide +kernel
theorem dL_clashes_13 : decode cL_clashes 13 = .ok (.iconst 1, 1) := by decide +kernel
theorem dL_clashes_14 : decode cL_clashes 14 = .ok (.ireturn, 1) := by decide +kernel
theorem dL_clashes_15 : decode cL_clashes 15 = .ok (.iconst 0, 1) := by decide +kernel
theorem dL_clashes_16 : decode cL_clashes 16 = .ok (.ireturn, 1) := by decide +kernel
theorem dL_freeWeek_0 : decode cL_freeWeek 0 = .ok (.aload_n 2, 1) := by decide +kernel
theorem dL_freeWeek_1 : decode cL_freeWeek 1 = .ok (.iconst 0, 1) := by decide +kernel
theorem dL_freeWeek_2 : decode cL_freeWeek 2 = .ok (.aload_n 0, 1) := by decide +kernel
theorem dL_freeWeek_3 : decode cL_freeWeek 3 = .ok (.iload_n 1, 1) := by decide +kernel
theorem dL_freeWeek_4 : decode cL_freeWeek 4 = .ok (.invokevirtual 69, 3) := by decide +kernel
theorem dL_freeWeek_7 : decode cL_freeWeek 7 = .ok (.i2l, 1) := by decide +kernel
theorem dL_freeWeek_8 : decode cL_freeWeek 8 = .ok (.lastore, 1) := by decide +kernel
theorem dL_freeWeek_9 : decode cL_freeWeek 9 = .ok (.goto 9, 3) := by decide +kernel
theorem dL_freeWeek_12 : decode cL_freeWeek 12 = .ok (.astore_n 3, 1) := by decide +kernel
theorem dL_freeWeek_13 : decode cL_freeWeek 13 = .ok (.iconst 1, 1) := by decide +kernel
theorem dL_freeWeek_14 : decode cL_freeWeek 14 = .ok (.ireturn, 1) := by decide +kernel
theorem dL_freeWeek_15 : decode cL_freeWeek 15 = .ok (.astore_n 3, 1) := by decide +kernel
theorem dL_freeWeek_16 : decode cL_freeWeek 16 = .ok (.iconst 2, 1) := by decide +kernel
theorem dL_freeWeek_17 : decode cL_freeWeek 17 = .ok (.ireturn, 1) := by decide +kernel
theorem dL_freeWeek_18 : decode cL_freeWeek 18 = .ok (.iconst 0, 1) := by decide +kernel
theorem dL_freeWeek_19 : decode cL_freeWeek 19 = .ok (.ireturn, 1) := by decide +kernel
theorem dL_ranked_0 : decode cL_ranked 0 = .ok (.aload_n 2, 1) := by decide +kernel
theorem dL_ranked_1 : decode cL_ranked 1 = .ok (.iconst 0, 1) := by decide +kernel
theorem dL_ranked_2 : decode cL_ranked 2 = .ok (.aload_n 0, 1) := by decide +kernel
theorem dL_ranked_3 : decode cL_ranked 3 = .ok (.iload_n 1, 1) := by decide +kernel
theorem dL_ranked_4 : decode cL_ranked 4 = .ok (.invokevirtual 72, 3) := by decide +kernel
theorem dL_ranked_7 : decode cL_ranked 7 = .ok (.i2l, 1) := by decide +kernel
theorem dL_ranked_8 : decode cL_ranked 8 = .ok (.lastore, 1) := by decide +kernel
theorem dL_ranked_9 : decode cL_ranked 9 = .ok (.goto 6, 3) := by decide +kernel
theorem dL_ranked_12 : decode cL_ranked 12 = .ok (.astore_n 3, 1) := by decide +kernel
theorem dL_ranked_13 : decode cL_ranked 13 = .ok (.iconst 1, 1) := by decide +kernel
theorem dL_ranked_14 : decode cL_ranked 14 = .ok (.ireturn, 1) := by decide +kernel
theorem dL_ranked_15 : decode cL_ranked 15 = .ok (.iconst 0, 1) := by decide +kernel
theorem dL_ranked_16 : decode cL_ranked 16 = .ok (.ireturn, 1) := by decide +kernel
theorem dL_placeOf_0 : decode cL_placeOf 0 = .ok (.aload_n 2, 1) := by decide +kernel
theorem dL_placeOf_1 : decode cL_placeOf 1 = .ok (.iconst 0, 1) := by decide +kernel
theorem dL_placeOf_2 : decode cL_placeOf 2 = .ok (.aload_n 0, 1) := by decide +kernel
theorem dL_placeOf_3 : decode cL_placeOf 3 = .ok (.iload_n 1, 1) := by decide +kernel
theorem dL_placeOf_4 : decode cL_placeOf 4 = .ok (.invokevirtual 75, 3) := by decide +kernel
theorem dL_placeOf_7 : decode cL_placeOf 7 = .ok (.i2l, 1) := by decide +kernel
theorem dL_placeOf_8 : decode cL_placeOf 8 = .ok (.lastore, 1) := by decide +kernel
theorem dL_placeOf_9 : decode cL_placeOf 9 = .ok (.goto 6, 3) := by decide +kernel
theorem dL_placeOf_12 : decode cL_placeOf 12 = .ok (.astore_n 3, 1) := by decide +kernel
theorem dL_placeOf_13 : decode cL_placeOf 13 = .ok (.iconst 1, 1) := by decide +kernel
theorem dL_placeOf_14 : decode cL_placeOf 14 = .ok (.ireturn, 1) := by decide +kernel
theorem dL_placeOf_15 : decode cL_placeOf 15 = .ok (.iconst 0, 1) := by decide +kernel
theorem dL_placeOf_16 : decode cL_placeOf 16 = .ok (.ireturn, 1) := by decide +kernel
theorem dL_valueOf_0 : decode cL_valueOf 0 = .ok (.aload_n 3, 1) := by decide +kernel
theorem dL_valueOf_1 : decode cL_valueOf 1 = .ok (.iconst 0, 1) := by decide +kernel
theorem dL_valueOf_2 : decode cL_valueOf 2 = .ok (.aload_n 0, 1) := by decide +kernel
theorem dL_valueOf_3 : decode cL_valueOf 3 = .ok (.iload_n 1, 1) := by decide +kernel
theorem dL_valueOf_4 : decode cL_valueOf 4 = .ok (.iload_n 2, 1) := by decide +kernel
theorem dL_valueOf_5 : decode cL_valueOf 5 = .ok (.invokevirtual 78, 3) := by decide +kernel
theorem dL_valueOf_8 : decode cL_valueOf 8 = .ok (.i2l, 1) := by decide +kernel
theorem dL_valueOf_9 : decode cL_valueOf 9 = .ok (.lastore, 1) := by decide +kernel
theorem dL_valueOf_10 : decode cL_valueOf 10 = .ok (.goto 11, 3) := by decide +kernel
theorem dL_valueOf_13 : decode cL_valueOf 13 = .ok (.astore 4, 2) := by decide +kernel
theorem dL_valueOf_15 : decode cL_valueOf 15 = .ok (.iconst 1, 1) := by decide +kernel
theorem dL_valueOf_16 : decode cL_valueOf 16 = .ok (.ireturn, 1) := by decide +kernel
theorem dL_valueOf_17 : decode cL_valueOf 17 = .ok (.astore 4, 2) := by decide +kernel
theorem dL_valueOf_19 : decode cL_valueOf 19 = .ok (.iconst 2, 1) := by decide +kernel
theorem dL_valueOf_20 : decode cL_valueOf 20 = .ok (.ireturn, 1) := by decide +kernel
theorem dL_valueOf_21 : decode cL_valueOf 21 = .ok (.iconst 0, 1) := by decide +kernel
theorem dL_valueOf_22 : decode cL_valueOf 22 = .ok (.ireturn, 1) := by decide +kernel
theorem dL_tied_0 : decode cL_tied 0 = .ok (.aload_n 2, 1) := by decide +kernel
theorem dL_tied_1 : decode cL_tied 1 = .ok (.iconst 0, 1) := by decide +kernel
theorem dL_tied_2 : decode cL_tied 2 = .ok (.aload_n 0, 1) := by decide +kernel
theorem dL_tied_3 : decode cL_tied 3 = .ok (.iload_n 1, 1) := by decide +kernel
theorem dL_tied_4 : decode cL_tied 4 = .ok (.invokevirtual 81, 3) := by decide +kernel
theorem dL_tied_7 : decode cL_tied 7 = .ok (.i2l, 1) := by decide +kernel
theorem dL_tied_8 : decode cL_tied 8 = .ok (.lastore, 1) := by decide +kernel
theorem dL_tied_9 : decode cL_tied 9 = .ok (.goto 6, 3) := by decide +kernel
theorem dL_tied_12 : decode cL_tied 12 = .ok (.astore_n 3, 1) := by decide +kernel
theorem dL_tied_13 : decode cL_tied 13 = .ok (.iconst 1, 1) := by decide +kernel
theorem dL_tied_14 : decode cL_tied 14 = .ok (.ireturn, 1) := by decide +kernel
theorem dL_tied_15 : decode cL_tied 15 = .ok (.iconst 0, 1) := by decide +kernel
theorem dL_tied_16 : decode cL_tied 16 = .ok (.ireturn, 1) := by decide +kernel
theorem dL_most_0 : decode cL_most 0 = .ok (.aload_n 2, 1) := by decide +kernel
theorem dL_most_1 : decode cL_most 1 = .ok (.iconst 0, 1) := by decide +kernel
theorem dL_most_2 : decode cL_most 2 = .ok (.aload_n 0, 1) := by decide +kernel
theorem dL_most_3 : decode cL_most 3 = .ok (.iload_n 1, 1) := by decide +kernel
theorem dL_most_4 : decode cL_most 4 = .ok (.invokevirtual 84, 3) := by decide +kernel
theorem dL_most_7 : decode cL_most 7 = .ok (.i2l, 1) := by decide +kernel
theorem dL_most_8 : decode cL_most 8 = .ok (.lastore, 1) := by decide +kernel
theorem dL_most_9 : decode cL_most 9 = .ok (.goto 6, 3) := by decide +kernel
theorem dL_most_12 : decode cL_most 12 = .ok (.astore_n 3, 1) := by decide +kernel
theorem dL_most_13 : decode cL_most 13 = .ok (.iconst 1, 1) := by decide +kernel
theorem dL_most_14 : decode cL_most 14 = .ok (.ireturn, 1) := by decide +kernel
theorem dL_most_15 : decode cL_most 15 = .ok (.iconst 0, 1) := by decide +kernel
theorem dL_most_16 : decode cL_most 16 = .ok (.ireturn, 1) := by decide +kernel
theorem dL_isSafe_0 : decode cL_isSafe 0 = .ok (.aload_n 2, 1) := by decide +kernel
theorem dL_isSafe_1 : decode cL_isSafe 1 = .ok (.iconst 0, 1) := by decide +kernel
theorem dL_isSafe_2 : decode cL_isSafe 2 = .ok (.aload_n 0, 1) := by decide +kernel
theorem dL_isSafe_3 : decode cL_isSafe 3 = .ok (.iload_n 1, 1) := by decide +kernel
theorem dL_isSafe_4 : decode cL_isSafe 4 = .ok (.invokevirtual 87, 3) := by decide +kernel
theorem dL_isSafe_7 : decode cL_isSafe 7 = .ok (.ifCond .eq 7, 3) := by decide +kernel
theorem dL_isSafe_10 : decode cL_isSafe 10 = .ok (.lconst 1, 1) := by decide +kernel
theorem dL_isSafe_11 : decode cL_isSafe 11 = .ok (.goto 4, 3) := by decide +kernel
theorem dL_isSafe_14 : decode cL_isSafe 14 = .ok (.lconst 0, 1) := by decide +kernel
theorem dL_isSafe_15 : decode cL_isSafe 15 = .ok (.lastore, 1) := by decide +kernel
theorem dL_isSafe_16 : decode cL_isSafe 16 = .ok (.goto 6, 3) := by decide +kernel
theorem dL_isSafe_19 : decode cL_isSafe 19 = .ok (.astore_n 3, 1) := by decide +kernel
theorem dL_isSafe_20 : decode cL_isSafe 20 = .ok (.iconst 1, 1) := by decide +kernel
theorem dL_isSafe_21 : decode cL_isSafe 21 = .ok (.ireturn, 1) := by decide +kernel
theorem dL_isSafe_22 : decode cL_isSafe 22 = .ok (.iconst 0, 1) := by decide +kernel
theorem dL_isSafe_23 : decode cL_isSafe 23 = .ok (.ireturn, 1) := by decide +kernel
theorem dL_isOut_0 : decode cL_isOut 0 = .ok (.aload_n 2, 1) := by decide +kernel
theorem dL_isOut_1 : decode cL_isOut 1 = .ok (.iconst 0, 1) := by decide +kernel
theorem dL_isOut_2 : decode cL_isOut 2 = .ok (.aload_n 0, 1) := by decide +kernel
theorem dL_isOut_3 : decode cL_isOut 3 = .ok (.iload_n 1, 1) := by decide +kernel
theorem dL_isOut_4 : decode cL_isOut 4 = .ok (.invokevirtual 91, 3) := by decide +kernel
theorem dL_isOut_7 : decode cL_isOut 7 = .ok (.ifCond .eq 7, 3) := by decide +kernel
theorem dL_isOut_10 : decode cL_isOut 10 = .ok (.lconst 1, 1) := by decide +kernel
theorem dL_isOut_11 : decode cL_isOut 11 = .ok (.goto 4, 3) := by decide +kernel
theorem dL_isOut_14 : decode cL_isOut 14 = .ok (.lconst 0, 1) := by decide +kernel
theorem dL_isOut_15 : decode cL_isOut 15 = .ok (.lastore, 1) := by decide +kernel
theorem dL_isOut_16 : decode cL_isOut 16 = .ok (.goto 6, 3) := by decide +kernel
theorem dL_isOut_19 : decode cL_isOut 19 = .ok (.astore_n 3, 1) := by decide +kernel
theorem dL_isOut_20 : decode cL_isOut 20 = .ok (.iconst 1, 1) := by decide +kernel
theorem dL_isOut_21 : decode cL_isOut 21 = .ok (.ireturn, 1) := by decide +kernel
theorem dL_isOut_22 : decode cL_isOut 22 = .ok (.iconst 0, 1) := by decide +kernel
theorem dL_isOut_23 : decode cL_isOut 23 = .ok (.ireturn, 1) := by decide +kernel
theorem dL_run_0 : decode cL_run 0 = .ok (.aload_n 2, 1) := by decide +kernel
theorem dL_run_1 : decode cL_run 1 = .ok (.iconst 0, 1) := by decide +kernel
theorem dL_run_2 : decode cL_run 2 = .ok (.aload_n 0, 1) := by decide +kernel
theorem dL_run_3 : decode cL_run 3 = .ok (.iload_n 1, 1) := by decide +kernel
theorem dL_run_4 : decode cL_run 4 = .ok (.invokevirtual 94, 3) := by decide +kernel
theorem dL_run_7 : decode cL_run 7 = .ok (.i2l, 1) := by decide +kernel
theorem dL_run_8 : decode cL_run 8 = .ok (.lastore, 1) := by decide +kernel
theorem dL_run_9 : decode cL_run 9 = .ok (.goto 6, 3) := by decide +kernel
theorem dL_run_12 : decode cL_run 12 = .ok (.astore_n 3, 1) := by decide +kernel
theorem dL_run_13 : decode cL_run 13 = .ok (.iconst 1, 1) := by decide +kernel
theorem dL_run_14 : decode cL_run 14 = .ok (.ireturn, 1) := by decide +kernel
theorem dL_run_15 : decode cL_run 15 = .ok (.iconst 0, 1) := by decide +kernel
theorem dL_run_16 : decode cL_run 16 = .ok (.ireturn, 1) := by decide +kernel
theorem dL_append_0 : decode cL_append 0 = .ok (.aload_n 2, 1) := by decide +kernel
theorem dL_append_1 : decode cL_append 1 = .ok (.iconst 0, 1) := by decide +kernel
theorem dL_append_2 : decode cL_append 2 = .ok (.aload_n 0, 1) := by decide +kernel
theorem dL_append_3 : decode cL_append 3 = .ok (.iload_n 1, 1) := by decide +kernel
theorem dL_append_4 : decode cL_append 4 = .ok (.invokevirtual 97, 3) := by decide +kernel
theorem dL_append_7 : decode cL_append 7 = .ok (.i2l, 1) := by decide +kernel
theorem dL_append_8 : decode cL_append 8 = .ok (.lastore, 1) := by decide +kernel
theorem dL_append_9 : decode cL_append 9 = .ok (.goto 6, 3) := by decide +kernel
theorem dL_append_12 : decode cL_append 12 = .ok (.astore_n 3, 1) := by decide +kernel
theorem dL_append_13 : decode cL_append 13 = .ok (.iconst 1, 1) := by decide +kernel
theorem dL_append_14 : decode cL_append 14 = .ok (.ireturn, 1) := by decide +kernel
theorem dL_append_15 : decode cL_append 15 = .ok (.iconst 0, 1) := by decide +kernel
theorem dL_append_16 : decode cL_append 16 = .ok (.ireturn, 1) := by decide +kernel
theorem dL_commands_0 : decode cL_commands 0 = .ok (.aload_n 1, 1) := by decide +kernel
theorem dL_commands_1 : decode cL_commands 1 = .ok (.iconst 0, 1) := by decide +kernel
theorem dL_commands_2 : decode cL_commands 2 = .ok (.aload_n 0, 1) := by decide +kernel
theorem dL_commands_3 : decode cL_commands 3 = .ok (.invokevirtual 103, 3) := by decide +kernel
theorem dL_commands_6 : decode cL_commands 6 = .ok (.i2l, 1) := by decide +kernel
theorem dL_commands_7 : decode cL_commands 7 = .ok (.lastore, 1) := by decide +kernel
theorem dL_commands_8 : decode cL_commands 8 = .ok (.goto 9, 3) := by decide +kernel
theorem dL_commands_11 : decode cL_commands 11 = .ok (.astore_n 2, 1) := by decide +kernel
theorem dL_commands_12 : decode cL_commands 12 = .ok (.iconst 1, 1) := by decide +kernel
theorem dL_commands_13 : decode cL_commands 13 = .ok (.ireturn, 1) := by decide +kernel
theorem dL_commands_14 : decode cL_commands 14 = .ok (.astore_n 2, 1) := by decide +kernel
theorem dL_commands_15 : decode cL_commands 15 = .ok (.iconst 2, 1) := by decide +kernel
theorem dL_commands_16 : decode cL_commands 16 = .ok (.ireturn, 1) := by decide +kernel
theorem dL_commands_17 : decode cL_commands 17 = .ok (.iconst 0, 1) := by decide +kernel
theorem dL_commands_18 : decode cL_commands 18 = .ok (.ireturn, 1) := by decide +kernel
theorem dL_reason_0 : decode cL_reason 0 = .ok (.aload_n 2, 1) := by decide +kernel
theorem dL_reason_1 : decode cL_reason 1 = .ok (.iconst 0, 1) := by decide +kernel
theorem dL_reason_2 : decode cL_reason 2 = .ok (.aload_n 0, 1) := by decide +kernel
theorem dL_reason_3 : decode cL_reason 3 = .ok (.iload_n 1, 1) := by decide +kernel
theorem dL_reason_4 : decode cL_reason 4 = .ok (.invokevirtual 106, 3) := by decide +kernel
theorem dL_reason_7 : decode cL_reason 7 = .ok (.i2l, 1) := by decide +kernel
theorem dL_reason_8 : decode cL_reason 8 = .ok (.lastore, 1) := by decide +kernel
theorem dL_reason_9 : decode cL_reason 9 = .ok (.goto 9, 3) := by decide +kernel
theorem dL_reason_12 : decode cL_reason 12 = .ok (.astore_n 3, 1) := by decide +kernel
theorem dL_reason_13 : decode cL_reason 13 = .ok (.iconst 1, 1) := by decide +kernel
theorem dL_reason_14 : decode cL_reason 14 = .ok (.ireturn, 1) := by decide +kernel
theorem dL_reason_15 : decode cL_reason 15 = .ok (.astore_n 3, 1) := by decide +kernel
theorem dL_reason_16 : decode cL_reason 16 = .ok (.iconst 2, 1) := by decide +kernel
theorem dL_reason_17 : decode cL_reason 17 = .ok (.ireturn, 1) := by decide +kernel
theorem dL_reason_18 : decode cL_reason 18 = .ok (.iconst 0, 1) := by decide +kernel
theorem dL_reason_19 : decode cL_reason 19 = .ok (.ireturn, 1) := by decide +kernel
theorem dL_line_0 : decode cL_line 0 = .ok (.aload_n 2, 1) := by decide +kernel
theorem dL_line_1 : decode cL_line 1 = .ok (.iconst 0, 1) := by decide +kernel
theorem dL_line_2 : decode cL_line 2 = .ok (.aload_n 0, 1) := by decide +kernel
theorem dL_line_3 : decode cL_line 3 = .ok (.iload_n 1, 1) := by decide +kernel
theorem dL_line_4 : decode cL_line 4 = .ok (.invokevirtual 109, 3) := by decide +kernel
theorem dL_line_7 : decode cL_line 7 = .ok (.i2l, 1) := by decide +kernel
theorem dL_line_8 : decode cL_line 8 = .ok (.lastore, 1) := by decide +kernel
theorem dL_line_9 : decode cL_line 9 = .ok (.goto 6, 3) := by decide +kernel
theorem dL_line_12 : decode cL_line 12 = .ok (.astore_n 3, 1) := by decide +kernel
theorem dL_line_13 : decode cL_line 13 = .ok (.iconst 1, 1) := by decide +kernel
theorem dL_line_14 : decode cL_line 14 = .ok (.ireturn, 1) := by decide +kernel
theorem dL_line_15 : decode cL_line 15 = .ok (.iconst 0, 1) := by decide +kernel
theorem dL_line_16 : decode cL_line 16 = .ok (.ireturn, 1) := by decide +kernel
theorem dL_character_0 : decode cL_character 0 = .ok (.aload_n 2, 1) := by decide +kernel
theorem dL_character_1 : decode cL_character 1 = .ok (.iconst 0, 1) := by decide +kernel
theorem dL_character_2 : decode cL_character 2 = .ok (.aload_n 0, 1) := by decide +kernel
theorem dL_character_3 : decode cL_character 3 = .ok (.iload_n 1, 1) := by decide +kernel
theorem dL_character_4 : decode cL_character 4 = .ok (.invokevirtual 112, 3) := by decide +kernel
theorem dL_character_7 : decode cL_character 7 = .ok (.i2l, 1) := by decide +kernel
theorem dL_character_8 : decode cL_character 8 = .ok (.lastore, 1) := by decide +kernel
theorem dL_character_9 : decode cL_character 9 = .ok (.goto 6, 3) := by decide +kernel
theorem dL_character_12 : decode cL_character 12 = .ok (.astore_n 3, 1) := by decide +kernel
theorem dL_character_13 : decode cL_character 13 = .ok (.iconst 1, 1) := by decide +kernel
theorem dL_character_14 : decode cL_character 14 = .ok (.ireturn, 1) := by decide +kernel
theorem dL_character_15 : decode cL_character 15 = .ok (.iconst 0, 1) := by decide +kernel
theorem dL_character_16 : decode cL_character 16 = .ok (.ireturn, 1) := by decide +kernel
theorem dL_meanGoals_0 : decode cL_meanGoals 0 = .ok (.aload_n 1, 1) := by decide +kernel
theorem dL_meanGoals_1 : decode cL_meanGoals 1 = .ok (.iconst 0, 1) := by decide +kernel
theorem dL_meanGoals_2 : decode cL_meanGoals 2 = .ok (.aload_n 0, 1) := by decide +kernel
theorem dL_meanGoals_3 : decode cL_meanGoals 3 = .ok (.invokevirtual 116, 3) := by decide +kernel
theorem dL_meanGoals_6 : decode cL_meanGoals 6 = .ok (.f2d, 1) := by decide +kernel
theorem dL_meanGoals_7 : decode cL_meanGoals 7 = .ok (.dastore, 1) := by decide +kernel
theorem dL_meanGoals_8 : decode cL_meanGoals 8 = .ok (.goto 6, 3) := by decide +kernel
theorem dL_meanGoals_11 : decode cL_meanGoals 11 = .ok (.astore_n 2, 1) := by decide +kernel
theorem dL_meanGoals_12 : decode cL_meanGoals 12 = .ok (.iconst 1, 1) := by decide +kernel
theorem dL_meanGoals_13 : decode cL_meanGoals 13 = .ok (.ireturn, 1) := by decide +kernel
theorem dL_meanGoals_14 : decode cL_meanGoals 14 = .ok (.iconst 0, 1) := by decide +kernel
theorem dL_meanGoals_15 : decode cL_meanGoals 15 = .ok (.ireturn, 1) := by decide +kernel
theorem dL_homeShare_0 : decode cL_homeShare 0 = .ok (.aload_n 1, 1) := by decide +kernel
theorem dL_homeShare_1 : decode cL_homeShare 1 = .ok (.iconst 0, 1) := by decide +kernel
theorem dL_homeShare_2 : decode cL_homeShare 2 = .ok (.aload_n 0, 1) := by decide +kernel
theorem dL_homeShare_3 : decode cL_homeShare 3 = .ok (.invokevirtual 122, 3) := by decide +kernel
theorem dL_homeShare_6 : decode cL_homeShare 6 = .ok (.dastore, 1) := by decide +kernel
theorem dL_homeShare_7 : decode cL_homeShare 7 = .ok (.goto 6, 3) := by decide +kernel
theorem dL_homeShare_10 : decode cL_homeShare 10 = .ok (.astore_n 2, 1) := by decide +kernel
theorem dL_homeShare_11 : decode cL_homeShare 11 = .ok (.iconst 1, 1) := by decide +kernel
theorem dL_homeShare_12 : decode cL_homeShare 12 = .ok (.ireturn, 1) := by decide +kernel
theorem dL_homeShare_13 : decode cL_homeShare 13 = .ok (.iconst 0, 1) := by decide +kernel
theorem dL_homeShare_14 : decode cL_homeShare 14 = .ok (.ireturn, 1) := by decide +kernel
theorem dL_account_0 : decode cL_account 0 = .ok (.aload_n 2, 1) := by decide +kernel
theorem dL_account_1 : decode cL_account 1 = .ok (.iconst 0, 1) := by decide +kernel
theorem dL_account_2 : decode cL_account 2 = .ok (.aload_n 0, 1) := by decide +kernel
theorem dL_account_3 : decode cL_account 3 = .ok (.iload_n 1, 1) := by decide +kernel
theorem dL_account_4 : decode cL_account 4 = .ok (.invokevirtual 126, 3) := by decide +kernel
theorem dL_account_7 : decode cL_account 7 = .ok (.i2l, 1) := by decide +kernel
theorem dL_account_8 : decode cL_account 8 = .ok (.lastore, 1) := by decide +kernel
theorem dL_account_9 : decode cL_account 9 = .ok (.goto 6, 3) := by decide +kernel
theorem dL_account_12 : decode cL_account 12 = .ok (.astore_n 3, 1) := by decide +kernel
theorem dL_account_13 : decode cL_account 13 = .ok (.iconst 1, 1) := by decide +kernel
theorem dL_account_14 : decode cL_account 14 = .ok (.ireturn, 1) := by decide +kernel
theorem dL_account_15 : decode cL_account 15 = .ok (.iconst 0, 1) := by decide +kernel
theorem dL_account_16 : decode cL_account 16 = .ok (.ireturn, 1) := by decide +kernel
theorem dL_undo_0 : decode cL_undo 0 = .ok (.aload_n 1, 1) := by decide +kernel
theorem dL_undo_1 : decode cL_undo 1 = .ok (.iconst 0, 1) := by decide +kernel
theorem dL_undo_2 : decode cL_undo 2 = .ok (.aload_n 0, 1) := by decide +kernel
theorem dL_undo_3 : decode cL_undo 3 = .ok (.invokevirtual 129, 3) := by decide +kernel
theorem dL_undo_6 : decode cL_undo 6 = .ok (.i2l, 1) := by decide +kernel
theorem dL_undo_7 : decode cL_undo 7 = .ok (.lastore, 1) := by decide +kernel
theorem dL_undo_8 : decode cL_undo 8 = .ok (.goto 6, 3) := by decide +kernel
theorem dL_undo_11 : decode cL_undo 11 = .ok (.astore_n 2, 1) := by decide +kernel
theorem dL_undo_12 : decode cL_undo 12 = .ok (.iconst 1, 1) := by decide +kernel
theorem dL_undo_13 : decode cL_undo 13 = .ok (.ireturn, 1) := by decide +kernel
theorem dL_undo_14 : decode cL_undo 14 = .ok (.iconst 0, 1) := by decide +kernel
theorem dL_undo_15 : decode cL_undo 15 = .ok (.ireturn, 1) := by decide +kernel
theorem dL_restore_0 : decode cL_restore 0 = .ok (.aload_n 1, 1) := by decide +kernel
theorem dL_restore_1 : decode cL_restore 1 = .ok (.iconst 0, 1) := by decide +kernel
theorem dL_restore_2 : decode cL_restore 2 = .ok (.aload_n 0, 1) := by decide +kernel
theorem dL_restore_3 : decode cL_restore 3 = .ok (.invokevirtual 132, 3) := by decide +kernel
theorem dL_restore_6 : decode cL_restore 6 = .ok (.i2l, 1) := by decide +kernel
theorem dL_restore_7 : decode cL_restore 7 = .ok (.lastore, 1) := by decide +kernel
theorem dL_restore_8 : decode cL_restore 8 = .ok (.goto 6, 3) := by decide +kernel
theorem dL_restore_11 : decode cL_restore 11 = .ok (.astore_n 2, 1) := by decide +kernel
theorem dL_restore_12 : decode cL_restore 12 = .ok (.iconst 1, 1) := by decide +kernel
theorem dL_restore_13 : decode cL_restore 13 = .ok (.ireturn, 1) := by decide +kernel
theorem dL_restore_14 : decode cL_restore 14 = .ok (.iconst 0, 1) := by decide +kernel
theorem dL_restore_15 : decode cL_restore 15 = .ok (.ireturn, 1) := by decide +kernel
