theorem dL_team_0 : decode cL_team 0 = .ok (.aload_n 2, 1) := by decide +kernel
theorem dL_team_1 : decode cL_team 1 = .ok (.iconst 0, 1) := by decide +kernel
theorem dL_team_2 : decode cL_team 2 = .ok (.aload_n 0, 1) := by decide +kernel
theorem dL_team_3 : decode cL_team 3 = .ok (.iload_n 1, 1) := by decide +kernel
theorem dL_team_4 : decode cL_team 4 = .ok (.invokevirtual 7, 3) := by decide +kernel
theorem dL_team_7 : decode cL_team 7 = .ok (.i2l, 1) := by decide +kernel
theorem dL_team_8 : decode cL_team 8 = .ok (.lastore, 1) := by decide +kernel
theorem dL_team_9 : decode cL_team 9 = .ok (.goto 6, 3) := by decide +kernel
theorem dL_team_12 : decode cL_team 12 = .ok (.astore_n 3, 1) := by decide +kernel
theorem dL_team_13 : decode cL_team 13 = .ok (.iconst 1, 1) := by decide +kernel
theorem dL_team_14 : decode cL_team 14 = .ok (.ireturn, 1) := by decide +kernel
theorem dL_team_15 : decode cL_team 15 = .ok (.iconst 0, 1) := by decide +kernel
theorem dL_team_16 : decode cL_team 16 = .ok (.ireturn, 1) := by decide +kernel
theorem dL_ground_0 : decode cL_ground 0 = .ok (.aload_n 3, 1) := by decide +kernel
theorem dL_ground_1 : decode cL_ground 1 = .ok (.iconst 0, 1) := by decide +kernel
theorem dL_ground_2 : decode cL_ground 2 = .ok (.aload_n 0, 1) := by decide +kernel
theorem dL_ground_3 : decode cL_ground 3 = .ok (.iload_n 1, 1) := by decide +kernel
theorem dL_ground_4 : decode cL_ground 4 = .ok (.iload_n 2, 1) := by decide +kernel
theorem dL_ground_5 : decode cL_ground 5 = .ok (.invokevirtual 15, 3) := by decide +kernel
theorem dL_ground_8 : decode cL_ground 8 = .ok (.i2l, 1) := by decide +kernel
theorem dL_ground_9 : decode cL_ground 9 = .ok (.lastore, 1) := by decide +kernel
theorem dL_ground_10 : decode cL_ground 10 = .ok (.goto 7, 3) := by decide +kernel
theorem dL_ground_13 : decode cL_ground 13 = .ok (.astore 4, 2) := by decide +kernel
theorem dL_ground_15 : decode cL_ground 15 = .ok (.iconst 1, 1) := by decide +kernel
theorem dL_ground_16 : decode cL_ground 16 = .ok (.ireturn, 1) := by decide +kernel
theorem dL_ground_17 : decode cL_ground 17 = .ok (.iconst 0, 1) := by decide +kernel
theorem dL_ground_18 : decode cL_ground 18 = .ok (.ireturn, 1) := by decide +kernel
theorem dL_draw_0 : decode cL_draw 0 = .ok (.aload_n 1, 1) := by decide +kernel
theorem dL_draw_1 : decode cL_draw 1 = .ok (.iconst 0, 1) := by decide +kernel
theorem dL_draw_2 : decode cL_draw 2 = .ok (.aload_n 0, 1) := by decide +kernel
theorem dL_draw_3 : decode cL_draw 3 = .ok (.invokevirtual 19, 3) := by decide +kernel
theorem dL_draw_6 : decode cL_draw 6 = .ok (.i2l, 1) := by decide +kernel
theorem dL_draw_7 : decode cL_draw 7 = .ok (.lastore, 1) := by decide +kernel
theorem dL_draw_8 : decode cL_draw 8 = .ok (.goto 6, 3) := by decide +kernel
theorem dL_draw_11 : decode cL_draw 11 = .ok (.astore_n 2, 1) := by decide +kernel
theorem dL_draw_12 : decode cL_draw 12 = .ok (.iconst 1, 1) := by decide +kernel
theorem dL_draw_13 : decode cL_draw 13 = .ok (.ireturn, 1) := by decide +kernel
theorem dL_draw_14 : decode cL_draw 14 = .ok (.iconst 0, 1) := by decide +kernel
theorem dL_draw_15 : decode cL_draw 15 = .ok (.ireturn, 1) := by decide +kernel
theorem dL_give_0 : decode cL_give 0 = .ok (.aload_n 3, 1) := by decide +kernel
theorem dL_give_1 : decode cL_give 1 = .ok (.iconst 0, 1) := by decide +kernel
theorem dL_give_2 : decode cL_give 2 = .ok (.aload_n 0, 1) := by decide +kernel
theorem dL_give_3 : decode cL_give 3 = .ok (.iload_n 1, 1) := by decide +kernel
theorem dL_give_4 : decode cL_give 4 = .ok (.iload_n 2, 1) := by decide +kernel
theorem dL_give_5 : decode cL_give 5 = .ok (.invokevirtual 23, 3) := by decide +kernel
theorem dL_give_8 : decode cL_give 8 = .ok (.i2l, 1) := by decide +kernel
theorem dL_give_9 : decode cL_give 9 = .ok (.lastore, 1) := by decide +kernel
theorem dL_give_10 : decode cL_give 10 = .ok (.goto 7, 3) := by decide +kernel
theorem dL_give_13 : decode cL_give 13 = .ok (.astore 4, 2) := by decide +kernel
theorem dL_give_15 : decode cL_give 15 = .ok (.iconst 1, 1) := by decide +kernel
theorem dL_give_16 : decode cL_give 16 = .ok (.ireturn, 1) := by decide +kernel
theorem dL_give_17 : decode cL_give 17 = .ok (.iconst 0, 1) := by decide +kernel
theorem dL_give_18 : decode cL_give 18 = .ok (.ireturn, 1) := by decide +kernel
theorem dL_rules_0 : decode cL_rules 0 = .ok (.aload 4, 2) := by decide +kernel
theorem dL_rules_2 : decode cL_rules 2 = .ok (.iconst 0, 1) := by decide +kernel
theorem dL_rules_3 : decode cL_rules 3 = .ok (.aload_n 0, 1) := by decide +kernel
theorem dL_rules_4 : decode cL_rules 4 = .ok (.iload_n 1, 1) := by decide +kernel
theorem dL_rules_5 : decode cL_rules 5 = .ok (.iload_n 2, 1) := by decide +kernel
theorem dL_rules_6 : decode cL_rules 6 = .ok (.iload_n 3, 1) := by decide +kernel
theorem dL_rules_7 : decode cL_rules 7 = .ok (.invokevirtual 26, 3) := by decide +kernel
theorem dL_rules_10 : decode cL_rules 10 = .ok (.i2l, 1) := by decide +kernel
theorem dL_rules_11 : decode cL_rules 11 = .ok (.lastore, 1) := by decide +kernel
theorem dL_rules_12 : decode cL_rules 12 = .ok (.goto 7, 3) := by decide +kernel
theorem dL_rules_15 : decode cL_rules 15 = .ok (.astore 5, 2) := by decide +kernel
theorem dL_rules_17 : decode cL_rules 17 = .ok (.iconst 1, 1) := by decide +kernel
theorem dL_rules_18 : decode cL_rules 18 = .ok (.ireturn, 1) := by decide +kernel
theorem dL_rules_19 : decode cL_rules 19 = .ok (.iconst 0, 1) := by decide +kernel
theorem dL_rules_20 : decode cL_rules 20 = .ok (.ireturn, 1) := by decide +kernel
theorem dL_result_0 : decode cL_result 0 = .ok (.aload 4, 2) := by decide +kernel
theorem dL_result_2 : decode cL_result 2 = .ok (.iconst 0, 1) := by decide +kernel
theorem dL_result_3 : decode cL_result 3 = .ok (.aload_n 0, 1) := by decide +kernel
theorem dL_result_4 : decode cL_result 4 = .ok (.iload_n 1, 1) := by decide +kernel
theorem dL_result_5 : decode cL_result 5 = .ok (.iload_n 2, 1) := by decide +kernel
theorem dL_result_6 : decode cL_result 6 = .ok (.iload_n 3, 1) := by decide +kernel
theorem dL_result_7 : decode cL_result 7 = .ok (.invokevirtual 30, 3) := by decide +kernel
theorem dL_result_10 : decode cL_result 10 = .ok (.i2l, 1) := by decide +kernel
theorem dL_result_11 : decode cL_result 11 = .ok (.lastore, 1) := by decide +kernel
theorem dL_result_12 : decode cL_result 12 = .ok (.goto 7, 3) := by decide +kernel
theorem dL_result_15 : decode cL_result 15 = .ok (.astore 5, 2) := by decide +kernel
theorem dL_result_17 : decode cL_result 17 = .ok (.iconst 1, 1) := by decide +kernel
theorem dL_result_18 : decode cL_result 18 = .ok (.ireturn, 1) := by decide +kernel
theorem dL_result_19 : decode cL_result 19 = .ok (.iconst 0, 1) := by decide +kernel
theorem dL_result_20 : decode cL_result 20 = .ok (.ireturn, 1) := by decide +kernel
theorem dL_back_0 : decode cL_back 0 = .ok (.aload_n 2, 1) := by decide +kernel
theorem dL_back_1 : decode cL_back 1 = .ok (.iconst 0, 1) := by decide +kernel
theorem dL_back_2 : decode cL_back 2 = .ok (.aload_n 0, 1) := by decide +kernel
theorem dL_back_3 : decode cL_back 3 = .ok (.iload_n 1, 1) := by decide +kernel
theorem dL_back_4 : decode cL_back 4 = .ok (.invokevirtual 33, 3) := by decide +kernel
theorem dL_back_7 : decode cL_back 7 = .ok (.i2l, 1) := by decide +kernel
theorem dL_back_8 : decode cL_back 8 = .ok (.lastore, 1) := by decide +kernel
theorem dL_back_9 : decode cL_back 9 = .ok (.goto 6, 3) := by decide +kernel
theorem dL_back_12 : decode cL_back 12 = .ok (.astore_n 3, 1) := by decide +kernel
theorem dL_back_13 : decode cL_back 13 = .ok (.iconst 1, 1) := by decide +kernel
theorem dL_back_14 : decode cL_back 14 = .ok (.ireturn, 1) := by decide +kernel
theorem dL_back_15 : decode cL_back 15 = .ok (.iconst 0, 1) := by decide +kernel
theorem dL_back_16 : decode cL_back 16 = .ok (.ireturn, 1) := by decide +kernel
theorem dL_putOff_0 : decode cL_putOff 0 = .ok (.aload_n 3, 1) := by decide +kernel
theorem dL_putOff_1 : decode cL_putOff 1 = .ok (.iconst 0, 1) := by decide +kernel
theorem dL_putOff_2 : decode cL_putOff 2 = .ok (.aload_n 0, 1) := by decide +kernel
theorem dL_putOff_3 : decode cL_putOff 3 = .ok (.iload_n 1, 1) := by decide +kernel
theorem dL_putOff_4 : decode cL_putOff 4 = .ok (.iload_n 2, 1) := by decide +kernel
theorem dL_putOff_5 : decode cL_putOff 5 = .ok (.invokevirtual 36, 3) := by decide +kernel
theorem dL_putOff_8 : decode cL_putOff 8 = .ok (.i2l, 1) := by decide +kernel
theorem dL_putOff_9 : decode cL_putOff 9 = .ok (.lastore, 1) := by decide +kernel
theorem dL_putOff_10 : decode cL_putOff 10 = .ok (.goto 7, 3) := by decide +kernel
theorem dL_putOff_13 : decode cL_putOff 13 = .ok (.astore 4, 2) := by decide +kernel
theorem dL_putOff_15 : decode cL_putOff 15 = .ok (.iconst 1, 1) := by decide +kernel
theorem dL_putOff_16 : decode cL_putOff 16 = .ok (.ireturn, 1) := by decide +kernel
theorem dL_putOff_17 : decode cL_putOff 17 = .ok (.iconst 0, 1) := by decide +kernel
theorem dL_putOff_18 : decode cL_putOff 18 = .ok (.ireturn, 1) := by decide +kernel
theorem dL_next_0 : decode cL_next 0 = .ok (.aload_n 1, 1) := by decide +kernel
theorem dL_next_1 : decode cL_next 1 = .ok (.iconst 0, 1) := by decide +kernel
theorem dL_next_2 : decode cL_next 2 = .ok (.aload_n 0, 1) := by decide +kernel
theorem dL_next_3 : decode cL_next 3 = .ok (.invokevirtual 39, 3) := by decide +kernel
theorem dL_next_6 : decode cL_next 6 = .ok (.i2l, 1) := by decide +kernel
theorem dL_next_7 : decode cL_next 7 = .ok (.lastore, 1) := by decide +kernel
theorem dL_next_8 : decode cL_next 8 = .ok (.goto 6, 3) := by decide +kernel
theorem dL_next_11 : decode cL_next 11 = .ok (.astore_n 2, 1) := by decide +kernel
theorem dL_next_12 : decode cL_next 12 = .ok (.iconst 1, 1) := by decide +kernel
theorem dL_next_13 : decode cL_next 13 = .ok (.ireturn, 1) := by decide +kernel
theorem dL_next_14 : decode cL_next 14 = .ok (.iconst 0, 1) := by decide +kernel
theorem dL_next_15 : decode cL_next 15 = .ok (.ireturn, 1) := by decide +kernel
theorem dL_teamOf_0 : decode cL_teamOf 0 = .ok (.aload_n 3, 1) := by decide +kernel
theorem dL_teamOf_1 : decode cL_teamOf 1 = .ok (.iconst 0, 1) := by decide +kernel
theorem dL_teamOf_2 : decode cL_teamOf 2 = .ok (.aload_n 0, 1) := by decide +kernel
theorem dL_teamOf_3 : decode cL_teamOf 3 = .ok (.iload_n 1, 1) := by decide +kernel
theorem dL_teamOf_4 : decode cL_teamOf 4 = .ok (.iload_n 2, 1) := by decide +kernel
theorem dL_teamOf_5 : decode cL_teamOf 5 = .ok (.invokevirtual 42, 3) := by decide +kernel
theorem dL_teamOf_8 : decode cL_teamOf 8 = .ok (.i2l, 1) := by decide +kernel
theorem dL_teamOf_9 : decode cL_teamOf 9 = .ok (.lastore, 1) := by decide +kernel
theorem dL_teamOf_10 : decode cL_teamOf 10 = .ok (.goto 11, 3) := by decide +kernel
theorem dL_teamOf_13 : decode cL_teamOf 13 = .ok (.astore 4, 2) := by decide +kernel
theorem dL_teamOf_15 : decode cL_teamOf 15 = .ok (.iconst 1, 1) := by decide +kernel
theorem dL_teamOf_16 : decode cL_teamOf 16 = .ok (.ireturn, 1) := by decide +kernel
theorem dL_teamOf_17 : decode cL_teamOf 17 = .ok (.astore 4, 2) := by decide +kernel
theorem dL_teamOf_19 : decode cL_teamOf 19 = .ok (.iconst 2, 1) := by decide +kernel
theorem dL_teamOf_20 : decode cL_teamOf 20 = .ok (.ireturn, 1) := by decide +kernel
theorem dL_teamOf_21 : decode cL_teamOf 21 = .ok (.iconst 0, 1) := by decide +kernel
theorem dL_teamOf_22 : decode cL_teamOf 22 = .ok (.ireturn, 1) := by decide +kernel
theorem dL_pointsAgain_0 : decode cL_pointsAgain 0 = .ok (.aload_n 2, 1) := by decide +kernel
theorem dL_pointsAgain_1 : decode cL_pointsAgain 1 = .ok (.iconst 0, 1) := by decide +kernel
theorem dL_pointsAgain_2 : decode cL_pointsAgain 2 = .ok (.aload_n 0, 1) := by decide +kernel
theorem dL_pointsAgain_3 : decode cL_pointsAgain 3 = .ok (.iload_n 1, 1) := by decide +kernel
theorem dL_pointsAgain_4 : decode cL_pointsAgain 4 = .ok (.invokevirtual 49, 3) := by decide +kernel
theorem dL_pointsAgain_7 : decode cL_pointsAgain 7 = .ok (.i2l, 1) := by decide +kernel
theorem dL_pointsAgain_8 : decode cL_pointsAgain 8 = .ok (.lastore, 1) := by decide +kernel
theorem dL_pointsAgain_9 : decode cL_pointsAgain 9 = .ok (.goto 6, 3) := by decide +kernel
theorem dL_pointsAgain_12 : decode cL_pointsAgain 12 = .ok (.astore_n 3, 1) := by decide +kernel
theorem dL_pointsAgain_13 : decode cL_pointsAgain 13 = .ok (.iconst 1, 1) := by decide +kernel
theorem dL_pointsAgain_14 : decode cL_pointsAgain 14 = .ok (.ireturn, 1) := by decide +kernel
theorem dL_pointsAgain_15 : decode cL_pointsAgain 15 = .ok (.iconst 0, 1) := by decide +kernel
theorem dL_pointsAgain_16 : decode cL_pointsAgain 16 = .ok (.ireturn, 1) := by decide +kernel
theorem dL_meetingOf_0 : decode cL_meetingOf 0 = .ok (.aload_n 3, 1) := by decide +kernel
theorem dL_meetingOf_1 : decode cL_meetingOf 1 = .ok (.iconst 0, 1) := by decide +kernel
theorem dL_meetingOf_2 : decode cL_meetingOf 2 = .ok (.aload_n 0, 1) := by decide +kernel
theorem dL_meetingOf_3 : decode cL_meetingOf 3 = .ok (.iload_n 1, 1) := by decide +kernel
theorem dL_meetingOf_4 : decode cL_meetingOf 4 = .ok (.iload_n 2, 1) := by decide +kernel
theorem dL_meetingOf_5 : decode cL_meetingOf 5 = .ok (.invokevirtual 52, 3) := by decide +kernel
theorem dL_meetingOf_8 : decode cL_meetingOf 8 = .ok (.i2l, 1) := by decide +kernel
theorem dL_meetingOf_9 : decode cL_meetingOf 9 = .ok (.lastore, 1) := by decide +kernel
theorem dL_meetingOf_10 : decode cL_meetingOf 10 = .ok (.goto 11, 3) := by decide +kernel
theorem dL_meetingOf_13 : decode cL_meetingOf 13 = .ok (.astore 4, 2) := by decide +kernel
theorem dL_meetingOf_15 : decode cL_meetingOf 15 = .ok (.iconst 1, 1) := by decide +kernel
theorem dL_meetingOf_16 : decode cL_meetingOf 16 = .ok (.ireturn, 1) := by decide +kernel
theorem dL_meetingOf_17 : decode cL_meetingOf 17 = .ok (.astore 4, 2) := by decide +kernel
theorem dL_meetingOf_19 : decode cL_meetingOf 19 = .ok (.iconst 2, 1) := by decide +kernel
theorem dL_meetingOf_20 : decode cL_meetingOf 20 = .ok (.ireturn, 1) := by decide +kernel
theorem dL_meetingOf_21 : decode cL_meetingOf 21 = .ok (.iconst 0, 1) := by decide +kernel
theorem dL_meetingOf_22 : decode cL_meetingOf 22 = .ok (.ireturn, 1) := by decide +kernel
theorem dL_find_0 : decode cL_find 0 = .ok (.aload_n 3, 1) := by decide +kernel
theorem dL_find_1 : decode cL_find 1 = .ok (.iconst 0, 1) := by decide +kernel
theorem dL_find_2 : decode cL_find 2 = .ok (.aload_n 0, 1) := by decide +kernel
theorem dL_find_3 : decode cL_find 3 = .ok (.iload_n 1, 1) := by decide +kernel
theorem dL_find_4 : decode cL_find 4 = .ok (.iload_n 2, 1) := by decide +kernel
theorem dL_find_5 : decode cL_find 5 = .ok (.invokevirtual 55, 3) := by decide +kernel
theorem dL_find_8 : decode cL_find 8 = .ok (.i2l, 1) := by decide +kernel
theorem dL_find_9 : decode cL_find 9 = .ok (.lastore, 1) := by decide +kernel
theorem dL_find_10 : decode cL_find 10 = .ok (.goto 11, 3) := by decide +kernel
theorem dL_find_13 : decode cL_find 13 = .ok (.astore 4, 2) := by decide +kernel
theorem dL_find_15 : decode cL_find 15 = .ok (.iconst 1, 1) := by decide +kernel
theorem dL_find_16 : decode cL_find 16 = .ok (.ireturn, 1) := by decide +kernel
theorem dL_find_17 : decode cL_find 17 = .ok (.astore 4, 2) := by decide +kernel
theorem dL_find_19 : decode cL_find 19 = .ok (.iconst 2, 1) := by decide +kernel
theorem dL_find_20 : decode cL_find 20 = .ok (.ireturn, 1) := by decide +kernel
theorem dL_find_21 : decode cL_find 21 = .ok (.iconst 0, 1) := by decide +kernel
theorem dL_find_22 : decode cL_find 22 = .ok (.ireturn, 1) := by decide +kernel
theorem dL_byeIn_0 : decode cL_byeIn 0 = .ok (.aload_n 2, 1) := by decide +kernel
theorem dL_byeIn_1 : decode cL_byeIn 1 = .ok (.iconst 0, 1) := by decide +kernel
theorem dL_byeIn_2 : decode cL_byeIn 2 = .ok (.aload_n 0, 1) := by decide +kernel
theorem dL_byeIn_3 : decode cL_byeIn 3 = .ok (.iload_n 1, 1) := by decide +kernel
theorem dL_byeIn_4 : decode cL_byeIn 4 = .ok (.invokevirtual 60, 3) := by decide +kernel
theorem dL_byeIn_7 : decode cL_byeIn 7 = .ok (.i2l, 1) := by decide +kernel
theorem dL_byeIn_8 : decode cL_byeIn 8 = .ok (.lastore, 1) := by decide +kernel
theorem dL_byeIn_9 : decode cL_byeIn 9 = .ok (.goto 9, 3) := by decide +kernel
theorem dL_byeIn_12 : decode cL_byeIn 12 = .ok (.astore_n 3, 1) := by decide +kernel
theorem dL_byeIn_13 : decode cL_byeIn 13 = .ok (.iconst 1, 1) := by decide +kernel
theorem dL_byeIn_14 : decode cL_byeIn 14 = .ok (.ireturn, 1) := by decide +kernel
theorem dL_byeIn_15 : decode cL_byeIn 15 = .ok (.astore_n 3, 1) := by decide +kernel
theorem dL_byeIn_16 : decode cL_byeIn 16 = .ok (.iconst 2, 1) := by decide +kernel
theorem dL_byeIn_17 : decode cL_byeIn 17 = .ok (.ireturn, 1) := by decide +kernel
theorem dL_byeIn_18 : decode cL_byeIn 18 = .ok (.iconst 0, 1) := by decide +kernel
theorem dL_byeIn_19 : decode cL_byeIn 19 = .ok (.ireturn, 1) := by decide +kernel
theorem dL_meetingsIn_0 : decode cL_meetingsIn 0 = .ok (.aload_n 2, 1) := by decide +kernel
theorem dL_meetingsIn_1 : decode cL_meetingsIn 1 = .ok (.iconst 0, 1) := by decide +kernel
theorem dL_meetingsIn_2 : decode cL_meetingsIn 2 = .ok (.aload_n 0, 1) := by decide +kernel
theorem dL_meetingsIn_3 : decode cL_meetingsIn 3 = .ok (.iload_n 1, 1) := by decide +kernel
theorem dL_meetingsIn_4 : decode cL_meetingsIn 4 = .ok (.invokevirtual 63, 3) := by decide +kernel
theorem dL_meetingsIn_7 : decode cL_meetingsIn 7 = .ok (.i2l, 1) := by decide +kernel
theorem dL_meetingsIn_8 : decode cL_meetingsIn 8 = .ok (.lastore, 1) := by decide +kernel
theorem dL_meetingsIn_9 : decode cL_meetingsIn 9 = .ok (.goto 6, 3) := by decide +kernel
theorem dL_meetingsIn_12 : decode cL_meetingsIn 12 = .ok (.astore_n 3, 1) := by decide +kernel
theorem dL_meetingsIn_13 : decode cL_meetingsIn 13 = .ok (.iconst 1, 1) := by decide +kernel
theorem dL_meetingsIn_14 : decode cL_meetingsIn 14 = .ok (.ireturn, 1) := by decide +kernel
theorem dL_meetingsIn_15 : decode cL_meetingsIn 15 = .ok (.iconst 0, 1) := by decide +kernel
theorem dL_meetingsIn_16 : decode cL_meetingsIn 16 = .ok (.ireturn, 1) := by decide +kernel
theorem dL_clashes_0 : decode cL_clashes 0 = .ok (.aload_n 2, 1) := by decide +kernel
theorem dL_clashes_1 : decode cL_clashes 1 = .ok (.iconst 0, 1) := by decide +kernel
theorem dL_clashes_2 : decode cL_clashes 2 = .ok (.aload_n 0, 1) := by decide +kernel
theorem dL_clashes_3 : decode cL_clashes 3 = .ok (.iload_n 1, 1) := by decide +kernel
theorem dL_clashes_4 : decode cL_clashes 4 = .ok (.invokevirtual 66, 3) := by decide +kernel
theorem dL_clashes_7 : decode cL_clashes 7 = .ok (.i2l, 1) := by decide +kernel
theorem dL_clashes_8 : decode cL_clashes 8 = .ok (.lastore, 1) := by decide +kernel
theorem dL_clashes_9 : decode cL_clashes 9 = .ok (.goto 6, 3) := by decide +kernel
theorem dL_clashes_12 : decode cL_clashes 12 = .ok (.astore_n 3, 1) := by decide +kernel
theorem dL_clashes_13 : decode cL_clashes 13 = .ok (.iconst 1, 1) := by decide +kernel
theorem dL_clashes_14 : decode cL_clashes 14 = .ok (.ireturn, 1) := by decide +kernel
theorem dL_clashes_15 : decode cL_clashes 15 = .ok (.iconst 0, 1) := by decide +kernel
theorem dL_clashes_16 : decode cL_clashes 16 = .ok (.ireturn, 1) := by decide +kernel
theorem dL_freeWeek_0 : decode cL_freeWeek 0 = .ok (.aload_n 2, 1) := by decide +kernel
theorem dL_freeWeek_1 : decode cL_freeWeek 1 = .ok (.iconst 0, 1) := by decide +kernel
theorem dL_freeWeek_2 : decode cL_freeWeek 2 = .ok (.aload_n 0, 1) := by decide +kernel
theorem dL_freeWeek_3 : decode cL_freeWeek 3 = .ok (.iload_n 1, 1) := by decide +kernel
theorem dL_freeWeek_4 : decode cL_freeWeek 4 = .ok (.invokevirtual 69, 3) := by decide +kernel
theorem dL_freeWeek_7 : decode cL_freeWeek 7 = .ok (.i2l, 1) := by decide +kernel
theorem dL_freeWeek_8 : decode cL_freeWeek 8 = .ok (.lastore, 1) := by decide +kernel
theorem dL_freeWeek_9 : decode cL_freeWeek 9 = .ok (.goto 9, 3) := by decide +kernel
theorem dL_freeWeek_12 : decode cL_freeWeek 12 = .ok (.astore_n 3, 1) := by decide +kernel
theorem dL_freeWeek_13 : decode cL_freeWeek 13 = .ok (.iconst 1, 1) := by decide +kernel
theorem dL_freeWeek_14 : decode cL_freeWeek 14 = .ok (.ireturn, 1) := by decide +kernel
theorem dL_freeWeek_15 : decode cL_freeWeek 15 = .ok (.astore_n 3, 1) := by decide +kernel
theorem dL_freeWeek_16 : decode cL_freeWeek 16 = .ok (.iconst 2, 1) := by decide +kernel
theorem dL_freeWeek_17 : decode cL_freeWeek 17 = .ok (.ireturn, 1) := by decide +kernel
theorem dL_freeWeek_18 : decode cL_freeWeek 18 = .ok (.iconst 0, 1) := by decide +kernel
theorem dL_freeWeek_19 : decode cL_freeWeek 19 = .ok (.ireturn, 1) := by decide +kernel
theorem dL_ranked_0 : decode cL_ranked 0 = .ok (.aload_n 2, 1) := by decide +kernel
theorem dL_ranked_1 : decode cL_ranked 1 = .ok (.iconst 0, 1) := by decide +kernel
theorem dL_ranked_2 : decode cL_ranked 2 = .ok (.aload_n 0, 1) := by decide +kernel
theorem dL_ranked_3 : decode cL_ranked 3 = .ok (.iload_n 1, 1) := by decide +kernel
theorem dL_ranked_4 : decode cL_ranked 4 = .ok (.invokevirtual 72, 3) := by decide +kernel
theorem dL_ranked_7 : decode cL_ranked 7 = .ok (.i2l, 1) := by decide +kernel
theorem dL_ranked_8 : decode cL_ranked 8 = .ok (.lastore, 1) := by decide +kernel
theorem dL_ranked_9 : decode cL_ranked 9 = .ok (.goto 6, 3) := by decide +kernel
theorem dL_ranked_12 : decode cL_ranked 12 = .ok (.astore_n 3, 1) := by decide +kernel
theorem dL_ranked_13 : decode cL_ranked 13 = .ok (.iconst 1, 1) := by decide +kernel
theorem dL_ranked_14 : decode cL_ranked 14 = .ok (.ireturn, 1) := by decide +kernel
theorem dL_ranked_15 : decode cL_ranked 15 = .ok (.iconst 0, 1) := by decide +kernel
theorem dL_ranked_16 : decode cL_ranked 16 = .ok (.ireturn, 1) := by decide +kernel
theorem dL_placeOf_0 : decode cL_placeOf 0 = .ok (.aload_n 2, 1) := by decide +kernel
theorem dL_placeOf_1 : decode cL_placeOf 1 = .ok (.iconst 0, 1) := by decide +kernel
theorem dL_placeOf_2 : decode cL_placeOf 2 = .ok (.aload_n 0, 1) := by decide +kernel
theorem dL_placeOf_3 : decode cL_placeOf 3 = .ok (.iload_n 1, 1) := by decide +kernel
theorem dL_placeOf_4 : decode cL_placeOf 4 = .ok (.invokevirtual 75, 3) := by decide +kernel
theorem dL_placeOf_7 : decode cL_placeOf 7 = .ok (.i2l, 1) := by decide +kernel
theorem dL_placeOf_8 : decode cL_placeOf 8 = .ok (.lastore, 1) := by decide +kernel
theorem dL_placeOf_9 : decode cL_placeOf 9 = .ok (.goto 6, 3) := by decide +kernel
theorem dL_placeOf_12 : decode cL_placeOf 12 = .ok (.astore_n 3, 1) := by decide +kernel
theorem dL_placeOf_13 : decode cL_placeOf 13 = .ok (.iconst 1, 1) := by decide +kernel
theorem dL_placeOf_14 : decode cL_placeOf 14 = .ok (.ireturn, 1) := by decide +kernel
theorem dL_placeOf_15 : decode cL_placeOf 15 = .ok (.iconst 0, 1) := by decide +kernel
theorem dL_placeOf_16 : decode cL_placeOf 16 = .ok (.ireturn, 1) := by decide +kernel
theorem dL_valueOf_0 : decode cL_valueOf 0 = .ok (.aload_n 3, 1) := by decide +kernel
theorem dL_valueOf_1 : decode cL_valueOf 1 = .ok (.iconst 0, 1) := by decide +kernel
theorem dL_valueOf_2 : decode cL_valueOf 2 = .ok (.aload_n 0, 1) := by decide +kernel
theorem dL_valueOf_3 : decode cL_valueOf 3 = .ok (.iload_n 1, 1) := by decide +kernel
theorem dL_valueOf_4 : decode cL_valueOf 4 = .ok (.iload_n 2, 1) := by decide +kernel
theorem dL_valueOf_5 : decode cL_valueOf 5 = .ok (.invokevirtual 78, 3) := by decide +kernel
theorem dL_valueOf_8 : decode cL_valueOf 8 = .ok (.i2l, 1) := by decide +kernel
theorem dL_valueOf_9 : decode cL_valueOf 9 = .ok (.lastore, 1) := by decide +kernel
theorem dL_valueOf_10 : decode cL_valueOf 10 = .ok (.goto 11, 3) := by decide +kernel
theorem dL_valueOf_13 : decode cL_valueOf 13 = .ok (.astore 4, 2) := by decide +kernel
theorem dL_valueOf_15 : decode cL_valueOf 15 = .ok (.iconst 1, 1) := by decide +kernel
theorem dL_valueOf_16 : decode cL_valueOf 16 = .ok (.ireturn, 1) := by decide +kernel
theorem dL_valueOf_17 : decode cL_valueOf 17 = .ok (.astore 4, 2) := by decide +kernel
theorem dL_valueOf_19 : decode cL_valueOf 19 = .ok (.iconst 2, 1) := by decide +kernel
theorem dL_valueOf_20 : decode cL_valueOf 20 = .ok (.ireturn, 1) := by decide +kernel
theorem dL_valueOf_21 : decode cL_valueOf 21 = .ok (.iconst 0, 1) := by decide +kernel
theorem dL_valueOf_22 : decode cL_valueOf 22 = .ok (.ireturn, 1) := by decide +kernel
theorem dL_tied_0 : decode cL_tied 0 = .ok (.aload_n 2, 1) := by decide +kernel
theorem dL_tied_1 : decode cL_tied 1 = .ok (.iconst 0, 1) := by decide +kernel
theorem dL_tied_2 : decode cL_tied 2 = .ok (.aload_n 0, 1) := by decide +kernel
theorem dL_tied_3 : decode cL_tied 3 = .ok (.iload_n 1, 1) := by decide +kernel
theorem dL_tied_4 : decode cL_tied 4 = .ok (.invokevirtual 81, 3) := by decide +kernel
theorem dL_tied_7 : decode cL_tied 7 = .ok (.i2l, 1) := by decide +kernel
theorem dL_tied_8 : decode cL_tied 8 = .ok (.lastore, 1) := by decide +kernel
theorem dL_tied_9 : decode cL_tied 9 = .ok (.goto 6, 3) := by decide +kernel
theorem dL_tied_12 : decode cL_tied 12 = .ok (.astore_n 3, 1) := by decide +kernel
theorem dL_tied_13 : decode cL_tied 13 = .ok (.iconst 1, 1) := by decide +kernel
theorem dL_tied_14 : decode cL_tied 14 = .ok (.ireturn, 1) := by decide +kernel
theorem dL_tied_15 : decode cL_tied 15 = .ok (.iconst 0, 1) := by decide +kernel
theorem dL_tied_16 : decode cL_tied 16 = .ok (.ireturn, 1) := by decide +kernel
theorem dL_most_0 : decode cL_most 0 = .ok (.aload_n 2, 1) := by decide +kernel
theorem dL_most_1 : decode cL_most 1 = .ok (.iconst 0, 1) := by decide +kernel
theorem dL_most_2 : decode cL_most 2 = .ok (.aload_n 0, 1) := by decide +kernel
theorem dL_most_3 : decode cL_most 3 = .ok (.iload_n 1, 1) := by decide +kernel
theorem dL_most_4 : decode cL_most 4 = .ok (.invokevirtual 84, 3) := by decide +kernel
theorem dL_most_7 : decode cL_most 7 = .ok (.i2l, 1) := by decide +kernel
theorem dL_most_8 : decode cL_most 8 = .ok (.lastore, 1) := by decide +kernel
theorem dL_most_9 : decode cL_most 9 = .ok (.goto 6, 3) := by decide +kernel
theorem dL_most_12 : decode cL_most 12 = .ok (.astore_n 3, 1) := by decide +kernel
theorem dL_most_13 : decode cL_most 13 = .ok (.iconst 1, 1) := by decide +kernel
theorem dL_most_14 : decode cL_most 14 = .ok (.ireturn, 1) := by decide +kernel
theorem dL_most_15 : decode cL_most 15 = .ok (.iconst 0, 1) := by decide +kernel
theorem dL_most_16 : decode cL_most 16 = .ok (.ireturn, 1) := by decide +kernel
theorem dL_isSafe_0 : decode cL_isSafe 0 = .ok (.aload_n 2, 1) := by decide +kernel
theorem dL_isSafe_1 : decode cL_isSafe 1 = .ok (.iconst 0, 1) := by decide +kernel
theorem dL_isSafe_2 : decode cL_isSafe 2 = .ok (.aload_n 0, 1) := by decide +kernel
theorem dL_isSafe_3 : decode cL_isSafe 3 = .ok (.iload_n 1, 1) := by decide +kernel
theorem dL_isSafe_4 : decode cL_isSafe 4 = .ok (.invokevirtual 87, 3) := by decide +kernel
theorem dL_isSafe_7 : decode cL_isSafe 7 = .ok (.ifCond .eq 7, 3) := by decide +kernel
theorem dL_isSafe_10 : decode cL_isSafe 10 = .ok (.lconst 1, 1) := by decide +kernel
theorem dL_isSafe_11 : decode cL_isSafe 11 = .ok (.goto 4, 3) := by decide +kernel
theorem dL_isSafe_14 : decode cL_isSafe 14 = .ok (.lconst 0, 1) := by decide +kernel
theorem dL_isSafe_15 : decode cL_isSafe 15 = .ok (.lastore, 1) := by decide +kernel
theorem dL_isSafe_16 : decode cL_isSafe 16 = .ok (.goto 6, 3) := by decide +kernel
theorem dL_isSafe_19 : decode cL_isSafe 19 = .ok (.astore_n 3, 1) := by decide +kernel
theorem dL_isSafe_20 : decode cL_isSafe 20 = .ok (.iconst 1, 1) := by decide +kernel
theorem dL_isSafe_21 : decode cL_isSafe 21 = .ok (.ireturn, 1) := by decide +kernel
theorem dL_isSafe_22 : decode cL_isSafe 22 = .ok (.iconst 0, 1) := by decide +kernel
theorem dL_isSafe_23 : decode cL_isSafe 23 = .ok (.ireturn, 1) := by decide +kernel
theorem dL_isOut_0 : decode cL_isOut 0 = .ok (.aload_n 2, 1) := by decide +kernel
theorem dL_isOut_1 : decode cL_isOut 1 = .ok (.iconst 0, 1) := by decide +kernel
theorem dL_isOut_2 : decode cL_isOut 2 = .ok (.aload_n 0, 1) := by decide +kernel
theorem dL_isOut_3 : decode cL_isOut 3 = .ok (.iload_n 1, 1) := by decide +kernel
theorem dL_isOut_4 : decode cL_isOut 4 = .ok (.invokevirtual 91, 3) := by decide +kernel
theorem dL_isOut_7 : decode cL_isOut 7 = .ok (.ifCond .eq 7, 3) := by decide +kernel
theorem dL_isOut_10 : decode cL_isOut 10 = .ok (.lconst 1, 1) := by decide +kernel
theorem dL_isOut_11 : decode cL_isOut 11 = .ok (.goto 4, 3) := by decide +kernel
theorem dL_isOut_14 : decode cL_isOut 14 = .ok (.lconst 0, 1) := by decide +kernel
theorem dL_isOut_15 : decode cL_isOut 15 = .ok (.lastore, 1) := by decide +kernel
theorem dL_isOut_16 : decode cL_isOut 16 = .ok (.goto 6, 3) := by decide +kernel
theorem dL_isOut_19 : decode cL_isOut 19 = .ok (.astore_n 3, 1) := by decide +kernel
theorem dL_isOut_20 : decode cL_isOut 20 = .ok (.iconst 1, 1) := by decide +kernel
theorem dL_isOut_21 : decode cL_isOut 21 = .ok (.ireturn, 1) := by decide +kernel
theorem dL_isOut_22 : decode cL_isOut 22 = .ok (.iconst 0, 1) := by decide +kernel
theorem dL_isOut_23 : decode cL_isOut 23 = .ok (.ireturn, 1) := by decide +kernel
theorem dL_run_0 : decode cL_run 0 = .ok (.aload_n 2, 1) := by decide +kernel
theorem dL_run_1 : decode cL_run 1 = .ok (.iconst 0, 1) := by decide +kernel
theorem dL_run_2 : decode cL_run 2 = .ok (.aload_n 0, 1) := by decide +kernel
theorem dL_run_3 : decode cL_run 3 = .ok (.iload_n 1, 1) := by decide +kernel
theorem dL_run_4 : decode cL_run 4 = .ok (.invokevirtual 94, 3) := by decide +kernel
theorem dL_run_7 : decode cL_run 7 = .ok (.i2l, 1) := by decide +kernel
theorem dL_run_8 : decode cL_run 8 = .ok (.lastore, 1) := by decide +kernel
theorem dL_run_9 : decode cL_run 9 = .ok (.goto 6, 3) := by decide +kernel
theorem dL_run_12 : decode cL_run 12 = .ok (.astore_n 3, 1) := by decide +kernel
theorem dL_run_13 : decode cL_run 13 = .ok (.iconst 1, 1) := by decide +kernel
theorem dL_run_14 : decode cL_run 14 = .ok (.ireturn, 1) := by decide +kernel
theorem dL_run_15 : decode cL_run 15 = .ok (.iconst 0, 1) := by decide +kernel
theorem dL_run_16 : decode cL_run 16 = .ok (.ireturn, 1) := by decide +kernel
theorem dL_append_0 : decode cL_append 0 = .ok (.aload_n 2, 1) := by decide +kernel
theorem dL_append_1 : decode cL_append 1 = .ok (.iconst 0, 1) := by decide +kernel
theorem dL_append_2 : decode cL_append 2 = .ok (.aload_n 0, 1) := by decide +kernel
theorem dL_append_3 : decode cL_append 3 = .ok (.iload_n 1, 1) := by decide +kernel
theorem dL_append_4 : decode cL_append 4 = .ok (.invokevirtual 97, 3) := by decide +kernel
theorem dL_append_7 : decode cL_append 7 = .ok (.i2l, 1) := by decide +kernel
theorem dL_append_8 : decode cL_append 8 = .ok (.lastore, 1) := by decide +kernel
theorem dL_append_9 : decode cL_append 9 = .ok (.goto 6, 3) := by decide +kernel
theorem dL_append_12 : decode cL_append 12 = .ok (.astore_n 3, 1) := by decide +kernel
theorem dL_append_13 : decode cL_append 13 = .ok (.iconst 1, 1) := by decide +kernel
theorem dL_append_14 : decode cL_append 14 = .ok (.ireturn, 1) := by decide +kernel
theorem dL_append_15 : decode cL_append 15 = .ok (.iconst 0, 1) := by decide +kernel
theorem dL_append_16 : decode cL_append 16 = .ok (.ireturn, 1) := by decide +kernel
theorem dL_commands_0 : decode cL_commands 0 = .ok (.aload_n 1, 1) := by decide +kernel
theorem dL_commands_1 : decode cL_commands 1 = .ok (.iconst 0, 1) := by decide +kernel
theorem dL_commands_2 : decode cL_commands 2 = .ok (.aload_n 0, 1) := by decide +kernel
theorem dL_commands_3 : decode cL_commands 3 = .ok (.invokevirtual 103, 3) := by decide +kernel
theorem dL_commands_6 : decode cL_commands 6 = .ok (.i2l, 1) := by decide +kernel
theorem dL_commands_7 : decode cL_commands 7 = .ok (.lastore, 1) := by decide +kernel
theorem dL_commands_8 : decode cL_commands 8 = .ok (.goto 9, 3) := by decide +kernel
theorem dL_commands_11 : decode cL_commands 11 = .ok (.astore_n 2, 1) := by decide +kernel
theorem dL_commands_12 : decode cL_commands 12 = .ok (.iconst 1, 1) := by decide +kernel
theorem dL_commands_13 : decode cL_commands 13 = .ok (.ireturn, 1) := by decide +kernel
theorem dL_commands_14 : decode cL_commands 14 = .ok (.astore_n 2, 1) := by decide +kernel
theorem dL_commands_15 : decode cL_commands 15 = .ok (.iconst 2, 1) := by decide +kernel
theorem dL_commands_16 : decode cL_commands 16 = .ok (.ireturn, 1) := by decide +kernel
theorem dL_commands_17 : decode cL_commands 17 = .ok (.iconst 0, 1) := by decide +kernel
theorem dL_commands_18 : decode cL_commands 18 = .ok (.ireturn, 1) := by decide +kernel
theorem dL_reason_0 : decode cL_reason 0 = .ok (.aload_n 2, 1) := by decide +kernel
theorem dL_reason_1 : decode cL_reason 1 = .ok (.iconst 0, 1) := by decide +kernel
theorem dL_reason_2 : decode cL_reason 2 = .ok (.aload_n 0, 1) := by decide +kernel
theorem dL_reason_3 : decode cL_reason 3 = .ok (.iload_n 1, 1) := by decide +kernel
theorem dL_reason_4 : decode cL_reason 4 = .ok (.invokevirtual 106, 3) := by decide +kernel
theorem dL_reason_7 : decode cL_reason 7 = .ok (.i2l, 1) := by decide +kernel
theorem dL_reason_8 : decode cL_reason 8 = .ok (.lastore, 1) := by decide +kernel
theorem dL_reason_9 : decode cL_reason 9 = .ok (.goto 9, 3) := by decide +kernel
theorem dL_reason_12 : decode cL_reason 12 = .ok (.astore_n 3, 1) := by decide +kernel
theorem dL_reason_13 : decode cL_reason 13 = .ok (.iconst 1, 1) := by decide +kernel
theorem dL_reason_14 : decode cL_reason 14 = .ok (.ireturn, 1) := by decide +kernel
theorem dL_reason_15 : decode cL_reason 15 = .ok (.astore_n 3, 1) := by decide +kernel
theorem dL_reason_16 : decode cL_reason 16 = .ok (.iconst 2, 1) := by decide +kernel
theorem dL_reason_17 : decode cL_reason 17 = .ok (.ireturn, 1) := by decide +kernel
theorem dL_reason_18 : decode cL_reason 18 = .ok (.iconst 0, 1) := by decide +kernel
theorem dL_reason_19 : decode cL_reason 19 = .ok (.ireturn, 1) := by decide +kernel
theorem dL_line_0 : decode cL_line 0 = .ok (.aload_n 2, 1) := by decide +kernel
theorem dL_line_1 : decode cL_line 1 = .ok (.iconst 0, 1) := by decide +kernel
theorem dL_line_2 : decode cL_line 2 = .ok (.aload_n 0, 1) := by decide +kernel
theorem dL_line_3 : decode cL_line 3 = .ok (.iload_n 1, 1) := by decide +kernel
theorem dL_line_4 : decode cL_line 4 = .ok (.invokevirtual 109, 3) := by decide +kernel
theorem dL_line_7 : decode cL_line 7 = .ok (.i2l, 1) := by decide +kernel
theorem dL_line_8 : decode cL_line 8 = .ok (.lastore, 1) := by decide +kernel
theorem dL_line_9 : decode cL_line 9 = .ok (.goto 6, 3) := by decide +kernel
theorem dL_line_12 : decode cL_line 12 = .ok (.astore_n 3, 1) := by decide +kernel
theorem dL_line_13 : decode cL_line 13 = .ok (.iconst 1, 1) := by decide +kernel
theorem dL_line_14 : decode cL_line 14 = .ok (.ireturn, 1) := by decide +kernel
theorem dL_line_15 : decode cL_line 15 = .ok (.iconst 0, 1) := by decide +kernel
theorem dL_line_16 : decode cL_line 16 = .ok (.ireturn, 1) := by decide +kernel
theorem dL_character_0 : decode cL_character 0 = .ok (.aload_n 2, 1) := by decide +kernel
theorem dL_character_1 : decode cL_character 1 = .ok (.iconst 0, 1) := by decide +kernel
theorem dL_character_2 : decode cL_character 2 = .ok (.aload_n 0, 1) := by decide +kernel
theorem dL_character_3 : decode cL_character 3 = .ok (.iload_n 1, 1) := by decide +kernel
theorem dL_character_4 : decode cL_character 4 = .ok (.invokevirtual 112, 3) := by decide +kernel
theorem dL_character_7 : decode cL_character 7 = .ok (.i2l, 1) := by decide +kernel
theorem dL_character_8 : decode cL_character 8 = .ok (.lastore, 1) := by decide +kernel
theorem dL_character_9 : decode cL_character 9 = .ok (.goto 6, 3) := by decide +kernel
theorem dL_character_12 : decode cL_character 12 = .ok (.astore_n 3, 1) := by decide +kernel
theorem dL_character_13 : decode cL_character 13 = .ok (.iconst 1, 1) := by decide +kernel
theorem dL_character_14 : decode cL_character 14 = .ok (.ireturn, 1) := by decide +kernel
theorem dL_character_15 : decode cL_character 15 = .ok (.iconst 0, 1) := by decide +kernel
theorem dL_character_16 : decode cL_character 16 = .ok (.ireturn, 1) := by decide +kernel
theorem dL_meanGoals_0 : decode cL_meanGoals 0 = .ok (.aload_n 1, 1) := by decide +kernel
theorem dL_meanGoals_1 : decode cL_meanGoals 1 = .ok (.iconst 0, 1) := by decide +kernel
theorem dL_meanGoals_2 : decode cL_meanGoals 2 = .ok (.aload_n 0, 1) := by decide +kernel
theorem dL_meanGoals_3 : decode cL_meanGoals 3 = .ok (.invokevirtual 116, 3) := by decide +kernel
theorem dL_meanGoals_6 : decode cL_meanGoals 6 = .ok (.f2d, 1) := by decide +kernel
theorem dL_meanGoals_7 : decode cL_meanGoals 7 = .ok (.dastore, 1) := by decide +kernel
theorem dL_meanGoals_8 : decode cL_meanGoals 8 = .ok (.goto 6, 3) := by decide +kernel
theorem dL_meanGoals_11 : decode cL_meanGoals 11 = .ok (.astore_n 2, 1) := by decide +kernel
theorem dL_meanGoals_12 : decode cL_meanGoals 12 = .ok (.iconst 1, 1) := by decide +kernel
theorem dL_meanGoals_13 : decode cL_meanGoals 13 = .ok (.ireturn, 1) := by decide +kernel
theorem dL_meanGoals_14 : decode cL_meanGoals 14 = .ok (.iconst 0, 1) := by decide +kernel
theorem dL_meanGoals_15 : decode cL_meanGoals 15 = .ok (.ireturn, 1) := by decide +kernel
theorem dL_homeShare_0 : decode cL_homeShare 0 = .ok (.aload_n 1, 1) := by decide +kernel
theorem dL_homeShare_1 : decode cL_homeShare 1 = .ok (.iconst 0, 1) := by decide +kernel
theorem dL_homeShare_2 : decode cL_homeShare 2 = .ok (.aload_n 0, 1) := by decide +kernel
theorem dL_homeShare_3 : decode cL_homeShare 3 = .ok (.invokevirtual 122, 3) := by decide +kernel
theorem dL_homeShare_6 : decode cL_homeShare 6 = .ok (.dastore, 1) := by decide +kernel
theorem dL_homeShare_7 : decode cL_homeShare 7 = .ok (.goto 6, 3) := by decide +kernel
theorem dL_homeShare_10 : decode cL_homeShare 10 = .ok (.astore_n 2, 1) := by decide +kernel
theorem dL_homeShare_11 : decode cL_homeShare 11 = .ok (.iconst 1, 1) := by decide +kernel
theorem dL_homeShare_12 : decode cL_homeShare 12 = .ok (.ireturn, 1) := by decide +kernel
theorem dL_homeShare_13 : decode cL_homeShare 13 = .ok (.iconst 0, 1) := by decide +kernel
theorem dL_homeShare_14 : decode cL_homeShare 14 = .ok (.ireturn, 1) := by decide +kernel
theorem dL_account_0 : decode cL_account 0 = .ok (.aload_n 2, 1) := by decide +kernel
theorem dL_account_1 : decode cL_account 1 = .ok (.iconst 0, 1) := by decide +kernel
theorem dL_account_2 : decode cL_account 2 = .ok (.aload_n 0, 1) := by decide +kernel
theorem dL_account_3 : decode cL_account 3 = .ok (.iload_n 1, 1) := by decide +kernel
theorem dL_account_4 : decode cL_account 4 = .ok (.invokevirtual 126, 3) := by decide +kernel
theorem dL_account_7 : decode cL_account 7 = .ok (.i2l, 1) := by decide +kernel
theorem dL_account_8 : decode cL_account 8 = .ok (.lastore, 1) := by decide +kernel
theorem dL_account_9 : decode cL_account 9 = .ok (.goto 6, 3) := by decide +kernel
theorem dL_account_12 : decode cL_account 12 = .ok (.astore_n 3, 1) := by decide +kernel
theorem dL_account_13 : decode cL_account 13 = .ok (.iconst 1, 1) := by decide +kernel
theorem dL_account_14 : decode cL_account 14 = .ok (.ireturn, 1) := by decide +kernel
theorem dL_account_15 : decode cL_account 15 = .ok (.iconst 0, 1) := by decide +kernel
theorem dL_account_16 : decode cL_account 16 = .ok (.ireturn, 1) := by decide +kernel
theorem dL_undo_0 : decode cL_undo 0 = .ok (.aload_n 1, 1) := by decide +kernel
theorem dL_undo_1 : decode cL_undo 1 = .ok (.iconst 0, 1) := by decide +kernel
theorem dL_undo_2 : decode cL_undo 2 = .ok (.aload_n 0, 1) := by decide +kernel
theorem dL_undo_3 : decode cL_undo 3 = .ok (.invokevirtual 129, 3) := by decide +kernel
theorem dL_undo_6 : decode cL_undo 6 = .ok (.i2l, 1) := by decide +kernel
theorem dL_undo_7 : decode cL_undo 7 = .ok (.lastore, 1) := by decide +kernel
theorem dL_undo_8 : decode cL_undo 8 = .ok (.goto 6, 3) := by decide +kernel
theorem dL_undo_11 : decode cL_undo 11 = .ok (.astore_n 2, 1) := by decide +kernel
theorem dL_undo_12 : decode cL_undo 12 = .ok (.iconst 1, 1) := by decide +kernel
theorem dL_undo_13 : decode cL_undo 13 = .ok (.ireturn, 1) := by decide +kernel
theorem dL_undo_14 : decode cL_undo 14 = .ok (.iconst 0, 1) := by decide +kernel
theorem dL_undo_15 : decode cL_undo 15 = .ok (.ireturn, 1) := by decide +kernel
theorem dL_restore_0 : decode cL_restore 0 = .ok (.aload_n 1, 1) := by decide +kernel
theorem dL_restore_1 : decode cL_restore 1 = .ok (.iconst 0, 1) := by decide +kernel
theorem dL_restore_2 : decode cL_restore 2 = .ok (.aload_n 0, 1) := by decide +kernel
theorem dL_restore_3 : decode cL_restore 3 = .ok (.invokevirtual 132, 3) := by decide +kernel
theorem dL_restore_6 : decode cL_restore 6 = .ok (.i2l, 1) := by decide +kernel
theorem dL_restore_7 : decode cL_restore 7 = .ok (.lastore, 1) := by decide +kernel
theorem dL_restore_8 : decode cL_restore 8 = .ok (.goto 6, 3) := by decide +kernel
theorem dL_restore_11 : decode cL_restore 11 = .ok (.astore_n 2, 1) := by decide +kernel
theorem dL_restore_12 : decode cL_restore 12 = .ok (.iconst 1, 1) := by decide +kernel
theorem dL_restore_13 : decode cL_restore 13 = .ok (.ireturn, 1) := by decide +kernel
theorem dL_restore_14 : decode cL_restore 14 = .ok (.iconst 0, 1) := by decide +kernel
theorem dL_restore_15 : decode cL_restore 15 = .ok (.ireturn, 1) := by decide +kernel
theorem dg_0 : (decode cL_law 0 = .ok (.new 8, 3)) ∧ (decode cL_law 3 = .ok (.dup, 1)) ∧ (decode cL_law 4 = .ok (.invokespecial 135, 3)) ∧ (decode cL_law 7 = .ok (.astore_n 1, 1)) ∧ (decode cL_law 8 = .ok (.new 136, 3)) ∧ (decode cL_law 11 = .ok (.dup, 1)) ∧ (decode cL_law 12 = .ok (.invokespecial 138, 3)) ∧ (decode cL_law 15 = .ok (.astore_n 2, 1)) := by decide +kernel
theorem dL_law_0 : decode cL_law 0 = .ok (.new 8, 3) := dg_0.1
theorem dL_law_3 : decode cL_law 3 = .ok (.dup, 1) := dg_0.2.1
theorem dL_law_4 : decode cL_law 4 = .ok (.invokespecial 135, 3) := dg_0.2.2.1
theorem dL_law_7 : decode cL_law 7 = .ok (.astore_n 1, 1) := dg_0.2.2.2.1
theorem dL_law_8 : decode cL_law 8 = .ok (.new 136, 3) := dg_0.2.2.2.2.1
theorem dL_law_11 : decode cL_law 11 = .ok (.dup, 1) := dg_0.2.2.2.2.2.1
theorem dL_law_12 : decode cL_law 12 = .ok (.invokespecial 138, 3) := dg_0.2.2.2.2.2.2.1
theorem dL_law_15 : decode cL_law 15 = .ok (.astore_n 2, 1) := dg_0.2.2.2.2.2.2.2
theorem dg_1 : (decode cL_law 16 = .ok (.iconst 1, 1)) ∧ (decode cL_law 17 = .ok (.newarray .long, 2)) ∧ (decode cL_law 19 = .ok (.astore_n 3, 1)) ∧ (decode cL_law 20 = .ok (.iconst 1, 1)) ∧ (decode cL_law 21 = .ok (.newarray .double, 2)) ∧ (decode cL_law 23 = .ok (.astore 4, 2)) ∧ (decode cL_law 25 = .ok (.iconst 0, 1)) ∧ (decode cL_law 26 = .ok (.istore 5, 2)) := by decide +kernel
theorem dL_law_16 : decode cL_law 16 = .ok (.iconst 1, 1) := dg_1.1
theorem dL_law_17 : decode cL_law 17 = .ok (.newarray .long, 2) := dg_1.2.1
theorem dL_law_19 : decode cL_law 19 = .ok (.astore_n 3, 1) := dg_1.2.2.1
theorem dL_law_20 : decode cL_law 20 = .ok (.iconst 1, 1) := dg_1.2.2.2.1
theorem dL_law_21 : decode cL_law 21 = .ok (.newarray .double, 2) := dg_1.2.2.2.2.1
theorem dL_law_23 : decode cL_law 23 = .ok (.astore 4, 2) := dg_1.2.2.2.2.2.1
theorem dL_law_25 : decode cL_law 25 = .ok (.iconst 0, 1) := dg_1.2.2.2.2.2.2.1
theorem dL_law_26 : decode cL_law 26 = .ok (.istore 5, 2) := dg_1.2.2.2.2.2.2.2
theorem dg_2 : (decode cL_law 28 = .ok (.iload 5, 2)) ∧ (decode cL_law 30 = .ok (.aload_n 0, 1)) ∧ (decode cL_law 31 = .ok (.arraylength, 1)) ∧ (decode cL_law 32 = .ok (.iconst 4, 1)) ∧ (decode cL_law 33 = .ok (.isub, 1)) ∧ (decode cL_law 34 = .ok (.if_icmp .gt 1266, 3)) ∧ (decode cL_law 37 = .ok (.aload_n 0, 1)) ∧ (decode cL_law 38 = .ok (.iload 5, 2)) := by decide +kernel
theorem dL_law_28 : decode cL_law 28 = .ok (.iload 5, 2) := dg_2.1
theorem dL_law_30 : decode cL_law 30 = .ok (.aload_n 0, 1) := dg_2.2.1
theorem dL_law_31 : decode cL_law 31 = .ok (.arraylength, 1) := dg_2.2.2.1
theorem dL_law_32 : decode cL_law 32 = .ok (.iconst 4, 1) := dg_2.2.2.2.1
theorem dL_law_33 : decode cL_law 33 = .ok (.isub, 1) := dg_2.2.2.2.2.1
theorem dL_law_34 : decode cL_law 34 = .ok (.if_icmp .gt 1266, 3) := dg_2.2.2.2.2.2.1
theorem dL_law_37 : decode cL_law 37 = .ok (.aload_n 0, 1) := dg_2.2.2.2.2.2.2.1
theorem dL_law_38 : decode cL_law 38 = .ok (.iload 5, 2) := dg_2.2.2.2.2.2.2.2
theorem dg_3 : (decode cL_law 40 = .ok (.iaload, 1)) ∧ (decode cL_law 41 = .ok (.bipush 63, 2)) ∧ (decode cL_law 43 = .ok (.iand, 1)) := by decide +kernel
theorem dL_law_40 : decode cL_law 40 = .ok (.iaload, 1) := dg_3.1
theorem dL_law_41 : decode cL_law 41 = .ok (.bipush 63, 2) := dg_3.2.1
theorem dL_law_43 : decode cL_law 43 = .ok (.iand, 1) := dg_3.2.2
theorem dL_law_44 : decode cL_law 44 = .ok (.tableswitch 1250 0 36 #[164, 192, 232, 248, 288, 340, 392, 420, 460, 476, 516, 544, 584, 624, 652, 680, 708, 736, 764, 792, 832, 860, 888, 916, 944, 972, 1002, 1018, 1031, 1059, 1087, 1115, 1132, 1149, 1205, 1221, 1234], 164) := by decide +kernel
theorem dg_4 : (decode cL_law 208 = .ok (.aload_n 1, 1)) ∧ (decode cL_law 209 = .ok (.aload_n 0, 1)) ∧ (decode cL_law 210 = .ok (.iload 5, 2)) ∧ (decode cL_law 212 = .ok (.iconst 1, 1)) ∧ (decode cL_law 213 = .ok (.iadd, 1)) ∧ (decode cL_law 214 = .ok (.iaload, 1)) ∧ (decode cL_law 215 = .ok (.aload_n 3, 1)) ∧ (decode cL_law 216 = .ok (.invokestatic 139, 3)) := by decide +kernel
theorem dL_law_208 : decode cL_law 208 = .ok (.aload_n 1, 1) := dg_4.1
theorem dL_law_209 : decode cL_law 209 = .ok (.aload_n 0, 1) := dg_4.2.1
theorem dL_law_210 : decode cL_law 210 = .ok (.iload 5, 2) := dg_4.2.2.1
theorem dL_law_212 : decode cL_law 212 = .ok (.iconst 1, 1) := dg_4.2.2.2.1
theorem dL_law_213 : decode cL_law 213 = .ok (.iadd, 1) := dg_4.2.2.2.2.1
theorem dL_law_214 : decode cL_law 214 = .ok (.iaload, 1) := dg_4.2.2.2.2.2.1
theorem dL_law_215 : decode cL_law 215 = .ok (.aload_n 3, 1) := dg_4.2.2.2.2.2.2.1
theorem dL_law_216 : decode cL_law 216 = .ok (.invokestatic 139, 3) := dg_4.2.2.2.2.2.2.2
theorem dg_5 : (decode cL_law 219 = .ok (.istore 6, 2)) ∧ (decode cL_law 221 = .ok (.aload_n 2, 1)) ∧ (decode cL_law 222 = .ok (.aload_n 0, 1)) ∧ (decode cL_law 223 = .ok (.iload 5, 2)) ∧ (decode cL_law 225 = .ok (.iconst 1, 1)) ∧ (decode cL_law 226 = .ok (.iadd, 1)) ∧ (decode cL_law 227 = .ok (.iaload, 1)) ∧ (decode cL_law 228 = .ok (.invokevirtual 144, 3)) := by decide +kernel
theorem dL_law_219 : decode cL_law 219 = .ok (.istore 6, 2) := dg_5.1
theorem dL_law_221 : decode cL_law 221 = .ok (.aload_n 2, 1) := dg_5.2.1
theorem dL_law_222 : decode cL_law 222 = .ok (.aload_n 0, 1) := dg_5.2.2.1
theorem dL_law_223 : decode cL_law 223 = .ok (.iload 5, 2) := dg_5.2.2.2.1
theorem dL_law_225 : decode cL_law 225 = .ok (.iconst 1, 1) := dg_5.2.2.2.2.1
theorem dL_law_226 : decode cL_law 226 = .ok (.iadd, 1) := dg_5.2.2.2.2.2.1
theorem dL_law_227 : decode cL_law 227 = .ok (.iaload, 1) := dg_5.2.2.2.2.2.2.1
theorem dL_law_228 : decode cL_law 228 = .ok (.invokevirtual 144, 3) := dg_5.2.2.2.2.2.2.2
theorem dg_6 : (decode cL_law 231 = .ok (.istore 7, 2)) ∧ (decode cL_law 233 = .ok (.goto 1061, 3)) ∧ (decode cL_law 236 = .ok (.aload_n 1, 1)) ∧ (decode cL_law 237 = .ok (.aload_n 0, 1)) ∧ (decode cL_law 238 = .ok (.iload 5, 2)) ∧ (decode cL_law 240 = .ok (.iconst 1, 1)) ∧ (decode cL_law 241 = .ok (.iadd, 1)) ∧ (decode cL_law 242 = .ok (.iaload, 1)) := by decide +kernel
theorem dL_law_231 : decode cL_law 231 = .ok (.istore 7, 2) := dg_6.1
theorem dL_law_233 : decode cL_law 233 = .ok (.goto 1061, 3) := dg_6.2.1
theorem dL_law_236 : decode cL_law 236 = .ok (.aload_n 1, 1) := dg_6.2.2.1
theorem dL_law_237 : decode cL_law 237 = .ok (.aload_n 0, 1) := dg_6.2.2.2.1
theorem dL_law_238 : decode cL_law 238 = .ok (.iload 5, 2) := dg_6.2.2.2.2.1
theorem dL_law_240 : decode cL_law 240 = .ok (.iconst 1, 1) := dg_6.2.2.2.2.2.1
theorem dL_law_241 : decode cL_law 241 = .ok (.iadd, 1) := dg_6.2.2.2.2.2.2.1
theorem dL_law_242 : decode cL_law 242 = .ok (.iaload, 1) := dg_6.2.2.2.2.2.2.2
theorem dg_7 : (decode cL_law 243 = .ok (.aload_n 0, 1)) ∧ (decode cL_law 244 = .ok (.iload 5, 2)) ∧ (decode cL_law 246 = .ok (.iconst 2, 1)) ∧ (decode cL_law 247 = .ok (.iadd, 1)) ∧ (decode cL_law 248 = .ok (.iaload, 1)) ∧ (decode cL_law 249 = .ok (.aload_n 3, 1)) ∧ (decode cL_law 250 = .ok (.invokestatic 145, 3)) ∧ (decode cL_law 253 = .ok (.istore 6, 2)) := by decide +kernel
theorem dL_law_243 : decode cL_law 243 = .ok (.aload_n 0, 1) := dg_7.1
theorem dL_law_244 : decode cL_law 244 = .ok (.iload 5, 2) := dg_7.2.1
theorem dL_law_246 : decode cL_law 246 = .ok (.iconst 2, 1) := dg_7.2.2.1
theorem dL_law_247 : decode cL_law 247 = .ok (.iadd, 1) := dg_7.2.2.2.1
theorem dL_law_248 : decode cL_law 248 = .ok (.iaload, 1) := dg_7.2.2.2.2.1
theorem dL_law_249 : decode cL_law 249 = .ok (.aload_n 3, 1) := dg_7.2.2.2.2.2.1
theorem dL_law_250 : decode cL_law 250 = .ok (.invokestatic 145, 3) := dg_7.2.2.2.2.2.2.1
theorem dL_law_253 : decode cL_law 253 = .ok (.istore 6, 2) := dg_7.2.2.2.2.2.2.2
theorem dg_8 : (decode cL_law 255 = .ok (.aload_n 2, 1)) ∧ (decode cL_law 256 = .ok (.aload_n 0, 1)) ∧ (decode cL_law 257 = .ok (.iload 5, 2)) ∧ (decode cL_law 259 = .ok (.iconst 1, 1)) ∧ (decode cL_law 260 = .ok (.iadd, 1)) ∧ (decode cL_law 261 = .ok (.iaload, 1)) ∧ (decode cL_law 262 = .ok (.aload_n 0, 1)) ∧ (decode cL_law 263 = .ok (.iload 5, 2)) := by decide +kernel
theorem dL_law_255 : decode cL_law 255 = .ok (.aload_n 2, 1) := dg_8.1
theorem dL_law_256 : decode cL_law 256 = .ok (.aload_n 0, 1) := dg_8.2.1
theorem dL_law_257 : decode cL_law 257 = .ok (.iload 5, 2) := dg_8.2.2.1
theorem dL_law_259 : decode cL_law 259 = .ok (.iconst 1, 1) := dg_8.2.2.2.1
theorem dL_law_260 : decode cL_law 260 = .ok (.iadd, 1) := dg_8.2.2.2.2.1
theorem dL_law_261 : decode cL_law 261 = .ok (.iaload, 1) := dg_8.2.2.2.2.2.1
theorem dL_law_262 : decode cL_law 262 = .ok (.aload_n 0, 1) := dg_8.2.2.2.2.2.2.1
theorem dL_law_263 : decode cL_law 263 = .ok (.iload 5, 2) := dg_8.2.2.2.2.2.2.2
theorem dg_9 : (decode cL_law 265 = .ok (.iconst 2, 1)) ∧ (decode cL_law 266 = .ok (.iadd, 1)) ∧ (decode cL_law 267 = .ok (.iaload, 1)) ∧ (decode cL_law 268 = .ok (.invokevirtual 148, 3)) ∧ (decode cL_law 271 = .ok (.istore 7, 2)) ∧ (decode cL_law 273 = .ok (.goto 1021, 3)) ∧ (decode cL_law 276 = .ok (.aload_n 1, 1)) ∧ (decode cL_law 277 = .ok (.aload_n 3, 1)) := by decide +kernel
theorem dL_law_265 : decode cL_law 265 = .ok (.iconst 2, 1) := dg_9.1
theorem dL_law_266 : decode cL_law 266 = .ok (.iadd, 1) := dg_9.2.1
theorem dL_law_267 : decode cL_law 267 = .ok (.iaload, 1) := dg_9.2.2.1
theorem dL_law_268 : decode cL_law 268 = .ok (.invokevirtual 148, 3) := dg_9.2.2.2.1
theorem dL_law_271 : decode cL_law 271 = .ok (.istore 7, 2) := dg_9.2.2.2.2.1
theorem dL_law_273 : decode cL_law 273 = .ok (.goto 1021, 3) := dg_9.2.2.2.2.2.1
theorem dL_law_276 : decode cL_law 276 = .ok (.aload_n 1, 1) := dg_9.2.2.2.2.2.2.1
theorem dL_law_277 : decode cL_law 277 = .ok (.aload_n 3, 1) := dg_9.2.2.2.2.2.2.2
theorem dg_10 : (decode cL_law 278 = .ok (.invokestatic 149, 3)) ∧ (decode cL_law 281 = .ok (.istore 6, 2)) ∧ (decode cL_law 283 = .ok (.aload_n 2, 1)) ∧ (decode cL_law 284 = .ok (.invokevirtual 152, 3)) ∧ (decode cL_law 287 = .ok (.istore 7, 2)) ∧ (decode cL_law 289 = .ok (.goto 1005, 3)) ∧ (decode cL_law 292 = .ok (.aload_n 1, 1)) ∧ (decode cL_law 293 = .ok (.aload_n 0, 1)) := by decide +kernel
theorem dL_law_278 : decode cL_law 278 = .ok (.invokestatic 149, 3) := dg_10.1
theorem dL_law_281 : decode cL_law 281 = .ok (.istore 6, 2) := dg_10.2.1
theorem dL_law_283 : decode cL_law 283 = .ok (.aload_n 2, 1) := dg_10.2.2.1
theorem dL_law_284 : decode cL_law 284 = .ok (.invokevirtual 152, 3) := dg_10.2.2.2.1
theorem dL_law_287 : decode cL_law 287 = .ok (.istore 7, 2) := dg_10.2.2.2.2.1
theorem dL_law_289 : decode cL_law 289 = .ok (.goto 1005, 3) := dg_10.2.2.2.2.2.1
theorem dL_law_292 : decode cL_law 292 = .ok (.aload_n 1, 1) := dg_10.2.2.2.2.2.2.1
theorem dL_law_293 : decode cL_law 293 = .ok (.aload_n 0, 1) := dg_10.2.2.2.2.2.2.2
theorem dg_11 : (decode cL_law 294 = .ok (.iload 5, 2)) ∧ (decode cL_law 296 = .ok (.iconst 1, 1)) ∧ (decode cL_law 297 = .ok (.iadd, 1)) ∧ (decode cL_law 298 = .ok (.iaload, 1)) ∧ (decode cL_law 299 = .ok (.aload_n 0, 1)) ∧ (decode cL_law 300 = .ok (.iload 5, 2)) ∧ (decode cL_law 302 = .ok (.iconst 2, 1)) ∧ (decode cL_law 303 = .ok (.iadd, 1)) := by decide +kernel
theorem dL_law_294 : decode cL_law 294 = .ok (.iload 5, 2) := dg_11.1
theorem dL_law_296 : decode cL_law 296 = .ok (.iconst 1, 1) := dg_11.2.1
theorem dL_law_297 : decode cL_law 297 = .ok (.iadd, 1) := dg_11.2.2.1
theorem dL_law_298 : decode cL_law 298 = .ok (.iaload, 1) := dg_11.2.2.2.1
theorem dL_law_299 : decode cL_law 299 = .ok (.aload_n 0, 1) := dg_11.2.2.2.2.1
theorem dL_law_300 : decode cL_law 300 = .ok (.iload 5, 2) := dg_11.2.2.2.2.2.1
theorem dL_law_302 : decode cL_law 302 = .ok (.iconst 2, 1) := dg_11.2.2.2.2.2.2.1
theorem dL_law_303 : decode cL_law 303 = .ok (.iadd, 1) := dg_11.2.2.2.2.2.2.2
theorem dg_12 : (decode cL_law 304 = .ok (.iaload, 1)) ∧ (decode cL_law 305 = .ok (.aload_n 3, 1)) ∧ (decode cL_law 306 = .ok (.invokestatic 153, 3)) ∧ (decode cL_law 309 = .ok (.istore 6, 2)) ∧ (decode cL_law 311 = .ok (.aload_n 2, 1)) ∧ (decode cL_law 312 = .ok (.aload_n 0, 1)) ∧ (decode cL_law 313 = .ok (.iload 5, 2)) ∧ (decode cL_law 315 = .ok (.iconst 1, 1)) := by decide +kernel
theorem dL_law_304 : decode cL_law 304 = .ok (.iaload, 1) := dg_12.1
theorem dL_law_305 : decode cL_law 305 = .ok (.aload_n 3, 1) := dg_12.2.1
theorem dL_law_306 : decode cL_law 306 = .ok (.invokestatic 153, 3) := dg_12.2.2.1
theorem dL_law_309 : decode cL_law 309 = .ok (.istore 6, 2) := dg_12.2.2.2.1
theorem dL_law_311 : decode cL_law 311 = .ok (.aload_n 2, 1) := dg_12.2.2.2.2.1
theorem dL_law_312 : decode cL_law 312 = .ok (.aload_n 0, 1) := dg_12.2.2.2.2.2.1
theorem dL_law_313 : decode cL_law 313 = .ok (.iload 5, 2) := dg_12.2.2.2.2.2.2.1
theorem dL_law_315 : decode cL_law 315 = .ok (.iconst 1, 1) := dg_12.2.2.2.2.2.2.2
theorem dg_13 : (decode cL_law 316 = .ok (.iadd, 1)) ∧ (decode cL_law 317 = .ok (.iaload, 1)) ∧ (decode cL_law 318 = .ok (.aload_n 0, 1)) ∧ (decode cL_law 319 = .ok (.iload 5, 2)) ∧ (decode cL_law 321 = .ok (.iconst 2, 1)) ∧ (decode cL_law 322 = .ok (.iadd, 1)) ∧ (decode cL_law 323 = .ok (.iaload, 1)) ∧ (decode cL_law 324 = .ok (.invokevirtual 155, 3)) := by decide +kernel
theorem dL_law_316 : decode cL_law 316 = .ok (.iadd, 1) := dg_13.1
theorem dL_law_317 : decode cL_law 317 = .ok (.iaload, 1) := dg_13.2.1
theorem dL_law_318 : decode cL_law 318 = .ok (.aload_n 0, 1) := dg_13.2.2.1
theorem dL_law_319 : decode cL_law 319 = .ok (.iload 5, 2) := dg_13.2.2.2.1
theorem dL_law_321 : decode cL_law 321 = .ok (.iconst 2, 1) := dg_13.2.2.2.2.1
theorem dL_law_322 : decode cL_law 322 = .ok (.iadd, 1) := dg_13.2.2.2.2.2.1
theorem dL_law_323 : decode cL_law 323 = .ok (.iaload, 1) := dg_13.2.2.2.2.2.2.1
theorem dL_law_324 : decode cL_law 324 = .ok (.invokevirtual 155, 3) := dg_13.2.2.2.2.2.2.2
theorem dg_14 : (decode cL_law 327 = .ok (.istore 7, 2)) ∧ (decode cL_law 329 = .ok (.goto 965, 3)) ∧ (decode cL_law 332 = .ok (.aload_n 1, 1)) ∧ (decode cL_law 333 = .ok (.aload_n 0, 1)) ∧ (decode cL_law 334 = .ok (.iload 5, 2)) ∧ (decode cL_law 336 = .ok (.iconst 1, 1)) ∧ (decode cL_law 337 = .ok (.iadd, 1)) ∧ (decode cL_law 338 = .ok (.iaload, 1)) := by decide +kernel
theorem dL_law_327 : decode cL_law 327 = .ok (.istore 7, 2) := dg_14.1
theorem dL_law_329 : decode cL_law 329 = .ok (.goto 965, 3) := dg_14.2.1
theorem dL_law_332 : decode cL_law 332 = .ok (.aload_n 1, 1) := dg_14.2.2.1
theorem dL_law_333 : decode cL_law 333 = .ok (.aload_n 0, 1) := dg_14.2.2.2.1
theorem dL_law_334 : decode cL_law 334 = .ok (.iload 5, 2) := dg_14.2.2.2.2.1
theorem dL_law_336 : decode cL_law 336 = .ok (.iconst 1, 1) := dg_14.2.2.2.2.2.1
theorem dL_law_337 : decode cL_law 337 = .ok (.iadd, 1) := dg_14.2.2.2.2.2.2.1
theorem dL_law_338 : decode cL_law 338 = .ok (.iaload, 1) := dg_14.2.2.2.2.2.2.2
theorem dg_15 : (decode cL_law 339 = .ok (.aload_n 0, 1)) ∧ (decode cL_law 340 = .ok (.iload 5, 2)) ∧ (decode cL_law 342 = .ok (.iconst 2, 1)) ∧ (decode cL_law 343 = .ok (.iadd, 1)) ∧ (decode cL_law 344 = .ok (.iaload, 1)) ∧ (decode cL_law 345 = .ok (.aload_n 0, 1)) ∧ (decode cL_law 346 = .ok (.iload 5, 2)) ∧ (decode cL_law 348 = .ok (.iconst 3, 1)) := by decide +kernel
theorem dL_law_339 : decode cL_law 339 = .ok (.aload_n 0, 1) := dg_15.1
theorem dL_law_340 : decode cL_law 340 = .ok (.iload 5, 2) := dg_15.2.1
theorem dL_law_342 : decode cL_law 342 = .ok (.iconst 2, 1) := dg_15.2.2.1
theorem dL_law_343 : decode cL_law 343 = .ok (.iadd, 1) := dg_15.2.2.2.1
theorem dL_law_344 : decode cL_law 344 = .ok (.iaload, 1) := dg_15.2.2.2.2.1
theorem dL_law_345 : decode cL_law 345 = .ok (.aload_n 0, 1) := dg_15.2.2.2.2.2.1
theorem dL_law_346 : decode cL_law 346 = .ok (.iload 5, 2) := dg_15.2.2.2.2.2.2.1
theorem dL_law_348 : decode cL_law 348 = .ok (.iconst 3, 1) := dg_15.2.2.2.2.2.2.2
theorem dg_16 : (decode cL_law 349 = .ok (.iadd, 1)) ∧ (decode cL_law 350 = .ok (.iaload, 1)) ∧ (decode cL_law 351 = .ok (.aload_n 3, 1)) ∧ (decode cL_law 352 = .ok (.invokestatic 156, 3)) ∧ (decode cL_law 355 = .ok (.istore 6, 2)) ∧ (decode cL_law 357 = .ok (.aload_n 2, 1)) ∧ (decode cL_law 358 = .ok (.aload_n 0, 1)) ∧ (decode cL_law 359 = .ok (.iload 5, 2)) := by decide +kernel
theorem dL_law_349 : decode cL_law 349 = .ok (.iadd, 1) := dg_16.1
theorem dL_law_350 : decode cL_law 350 = .ok (.iaload, 1) := dg_16.2.1
theorem dL_law_351 : decode cL_law 351 = .ok (.aload_n 3, 1) := dg_16.2.2.1
theorem dL_law_352 : decode cL_law 352 = .ok (.invokestatic 156, 3) := dg_16.2.2.2.1
theorem dL_law_355 : decode cL_law 355 = .ok (.istore 6, 2) := dg_16.2.2.2.2.1
theorem dL_law_357 : decode cL_law 357 = .ok (.aload_n 2, 1) := dg_16.2.2.2.2.2.1
theorem dL_law_358 : decode cL_law 358 = .ok (.aload_n 0, 1) := dg_16.2.2.2.2.2.2.1
theorem dL_law_359 : decode cL_law 359 = .ok (.iload 5, 2) := dg_16.2.2.2.2.2.2.2
theorem dg_17 : (decode cL_law 361 = .ok (.iconst 1, 1)) ∧ (decode cL_law 362 = .ok (.iadd, 1)) ∧ (decode cL_law 363 = .ok (.iaload, 1)) ∧ (decode cL_law 364 = .ok (.aload_n 0, 1)) ∧ (decode cL_law 365 = .ok (.iload 5, 2)) ∧ (decode cL_law 367 = .ok (.iconst 2, 1)) ∧ (decode cL_law 368 = .ok (.iadd, 1)) ∧ (decode cL_law 369 = .ok (.iaload, 1)) := by decide +kernel
theorem dL_law_361 : decode cL_law 361 = .ok (.iconst 1, 1) := dg_17.1
theorem dL_law_362 : decode cL_law 362 = .ok (.iadd, 1) := dg_17.2.1
theorem dL_law_363 : decode cL_law 363 = .ok (.iaload, 1) := dg_17.2.2.1
theorem dL_law_364 : decode cL_law 364 = .ok (.aload_n 0, 1) := dg_17.2.2.2.1
theorem dL_law_365 : decode cL_law 365 = .ok (.iload 5, 2) := dg_17.2.2.2.2.1
theorem dL_law_367 : decode cL_law 367 = .ok (.iconst 2, 1) := dg_17.2.2.2.2.2.1
theorem dL_law_368 : decode cL_law 368 = .ok (.iadd, 1) := dg_17.2.2.2.2.2.2.1
theorem dL_law_369 : decode cL_law 369 = .ok (.iaload, 1) := dg_17.2.2.2.2.2.2.2
theorem dg_18 : (decode cL_law 370 = .ok (.aload_n 0, 1)) ∧ (decode cL_law 371 = .ok (.iload 5, 2)) ∧ (decode cL_law 373 = .ok (.iconst 3, 1)) ∧ (decode cL_law 374 = .ok (.iadd, 1)) ∧ (decode cL_law 375 = .ok (.iaload, 1)) ∧ (decode cL_law 376 = .ok (.invokevirtual 159, 3)) ∧ (decode cL_law 379 = .ok (.istore 7, 2)) ∧ (decode cL_law 381 = .ok (.goto 913, 3)) := by decide +kernel
theorem dL_law_370 : decode cL_law 370 = .ok (.aload_n 0, 1) := dg_18.1
theorem dL_law_371 : decode cL_law 371 = .ok (.iload 5, 2) := dg_18.2.1
theorem dL_law_373 : decode cL_law 373 = .ok (.iconst 3, 1) := dg_18.2.2.1
theorem dL_law_374 : decode cL_law 374 = .ok (.iadd, 1) := dg_18.2.2.2.1
theorem dL_law_375 : decode cL_law 375 = .ok (.iaload, 1) := dg_18.2.2.2.2.1
theorem dL_law_376 : decode cL_law 376 = .ok (.invokevirtual 159, 3) := dg_18.2.2.2.2.2.1
theorem dL_law_379 : decode cL_law 379 = .ok (.istore 7, 2) := dg_18.2.2.2.2.2.2.1
theorem dL_law_381 : decode cL_law 381 = .ok (.goto 913, 3) := dg_18.2.2.2.2.2.2.2
theorem dg_19 : (decode cL_law 384 = .ok (.aload_n 1, 1)) ∧ (decode cL_law 385 = .ok (.aload_n 0, 1)) ∧ (decode cL_law 386 = .ok (.iload 5, 2)) ∧ (decode cL_law 388 = .ok (.iconst 1, 1)) ∧ (decode cL_law 389 = .ok (.iadd, 1)) ∧ (decode cL_law 390 = .ok (.iaload, 1)) ∧ (decode cL_law 391 = .ok (.aload_n 0, 1)) ∧ (decode cL_law 392 = .ok (.iload 5, 2)) := by decide +kernel
theorem dL_law_384 : decode cL_law 384 = .ok (.aload_n 1, 1) := dg_19.1
theorem dL_law_385 : decode cL_law 385 = .ok (.aload_n 0, 1) := dg_19.2.1
theorem dL_law_386 : decode cL_law 386 = .ok (.iload 5, 2) := dg_19.2.2.1
theorem dL_law_388 : decode cL_law 388 = .ok (.iconst 1, 1) := dg_19.2.2.2.1
theorem dL_law_389 : decode cL_law 389 = .ok (.iadd, 1) := dg_19.2.2.2.2.1
theorem dL_law_390 : decode cL_law 390 = .ok (.iaload, 1) := dg_19.2.2.2.2.2.1
theorem dL_law_391 : decode cL_law 391 = .ok (.aload_n 0, 1) := dg_19.2.2.2.2.2.2.1
theorem dL_law_392 : decode cL_law 392 = .ok (.iload 5, 2) := dg_19.2.2.2.2.2.2.2
theorem dg_20 : (decode cL_law 394 = .ok (.iconst 2, 1)) ∧ (decode cL_law 395 = .ok (.iadd, 1)) ∧ (decode cL_law 396 = .ok (.iaload, 1)) ∧ (decode cL_law 397 = .ok (.aload_n 0, 1)) ∧ (decode cL_law 398 = .ok (.iload 5, 2)) ∧ (decode cL_law 400 = .ok (.iconst 3, 1)) ∧ (decode cL_law 401 = .ok (.iadd, 1)) ∧ (decode cL_law 402 = .ok (.iaload, 1)) := by decide +kernel
theorem dL_law_394 : decode cL_law 394 = .ok (.iconst 2, 1) := dg_20.1
theorem dL_law_395 : decode cL_law 395 = .ok (.iadd, 1) := dg_20.2.1
theorem dL_law_396 : decode cL_law 396 = .ok (.iaload, 1) := dg_20.2.2.1
theorem dL_law_397 : decode cL_law 397 = .ok (.aload_n 0, 1) := dg_20.2.2.2.1
theorem dL_law_398 : decode cL_law 398 = .ok (.iload 5, 2) := dg_20.2.2.2.2.1
theorem dL_law_400 : decode cL_law 400 = .ok (.iconst 3, 1) := dg_20.2.2.2.2.2.1
theorem dL_law_401 : decode cL_law 401 = .ok (.iadd, 1) := dg_20.2.2.2.2.2.2.1
theorem dL_law_402 : decode cL_law 402 = .ok (.iaload, 1) := dg_20.2.2.2.2.2.2.2
theorem dg_21 : (decode cL_law 403 = .ok (.aload_n 3, 1)) ∧ (decode cL_law 404 = .ok (.invokestatic 160, 3)) ∧ (decode cL_law 407 = .ok (.istore 6, 2)) ∧ (decode cL_law 409 = .ok (.aload_n 2, 1)) ∧ (decode cL_law 410 = .ok (.aload_n 0, 1)) ∧ (decode cL_law 411 = .ok (.iload 5, 2)) ∧ (decode cL_law 413 = .ok (.iconst 1, 1)) ∧ (decode cL_law 414 = .ok (.iadd, 1)) := by decide +kernel
theorem dL_law_403 : decode cL_law 403 = .ok (.aload_n 3, 1) := dg_21.1
theorem dL_law_404 : decode cL_law 404 = .ok (.invokestatic 160, 3) := dg_21.2.1
theorem dL_law_407 : decode cL_law 407 = .ok (.istore 6, 2) := dg_21.2.2.1
theorem dL_law_409 : decode cL_law 409 = .ok (.aload_n 2, 1) := dg_21.2.2.2.1
theorem dL_law_410 : decode cL_law 410 = .ok (.aload_n 0, 1) := dg_21.2.2.2.2.1
theorem dL_law_411 : decode cL_law 411 = .ok (.iload 5, 2) := dg_21.2.2.2.2.2.1
theorem dL_law_413 : decode cL_law 413 = .ok (.iconst 1, 1) := dg_21.2.2.2.2.2.2.1
theorem dL_law_414 : decode cL_law 414 = .ok (.iadd, 1) := dg_21.2.2.2.2.2.2.2
theorem dg_22 : (decode cL_law 415 = .ok (.iaload, 1)) ∧ (decode cL_law 416 = .ok (.aload_n 0, 1)) ∧ (decode cL_law 417 = .ok (.iload 5, 2)) ∧ (decode cL_law 419 = .ok (.iconst 2, 1)) ∧ (decode cL_law 420 = .ok (.iadd, 1)) ∧ (decode cL_law 421 = .ok (.iaload, 1)) ∧ (decode cL_law 422 = .ok (.aload_n 0, 1)) ∧ (decode cL_law 423 = .ok (.iload 5, 2)) := by decide +kernel
theorem dL_law_415 : decode cL_law 415 = .ok (.iaload, 1) := dg_22.1
theorem dL_law_416 : decode cL_law 416 = .ok (.aload_n 0, 1) := dg_22.2.1
theorem dL_law_417 : decode cL_law 417 = .ok (.iload 5, 2) := dg_22.2.2.1
theorem dL_law_419 : decode cL_law 419 = .ok (.iconst 2, 1) := dg_22.2.2.2.1
theorem dL_law_420 : decode cL_law 420 = .ok (.iadd, 1) := dg_22.2.2.2.2.1
theorem dL_law_421 : decode cL_law 421 = .ok (.iaload, 1) := dg_22.2.2.2.2.2.1
theorem dL_law_422 : decode cL_law 422 = .ok (.aload_n 0, 1) := dg_22.2.2.2.2.2.2.1
theorem dL_law_423 : decode cL_law 423 = .ok (.iload 5, 2) := dg_22.2.2.2.2.2.2.2
theorem dg_23 : (decode cL_law 425 = .ok (.iconst 3, 1)) ∧ (decode cL_law 426 = .ok (.iadd, 1)) ∧ (decode cL_law 427 = .ok (.iaload, 1)) ∧ (decode cL_law 428 = .ok (.invokevirtual 162, 3)) ∧ (decode cL_law 431 = .ok (.istore 7, 2)) ∧ (decode cL_law 433 = .ok (.goto 861, 3)) ∧ (decode cL_law 436 = .ok (.aload_n 1, 1)) ∧ (decode cL_law 437 = .ok (.aload_n 0, 1)) := by decide +kernel
theorem dL_law_425 : decode cL_law 425 = .ok (.iconst 3, 1) := dg_23.1
theorem dL_law_426 : decode cL_law 426 = .ok (.iadd, 1) := dg_23.2.1
theorem dL_law_427 : decode cL_law 427 = .ok (.iaload, 1) := dg_23.2.2.1
theorem dL_law_428 : decode cL_law 428 = .ok (.invokevirtual 162, 3) := dg_23.2.2.2.1
theorem dL_law_431 : decode cL_law 431 = .ok (.istore 7, 2) := dg_23.2.2.2.2.1
theorem dL_law_433 : decode cL_law 433 = .ok (.goto 861, 3) := dg_23.2.2.2.2.2.1
theorem dL_law_436 : decode cL_law 436 = .ok (.aload_n 1, 1) := dg_23.2.2.2.2.2.2.1
theorem dL_law_437 : decode cL_law 437 = .ok (.aload_n 0, 1) := dg_23.2.2.2.2.2.2.2
theorem dg_24 : (decode cL_law 438 = .ok (.iload 5, 2)) ∧ (decode cL_law 440 = .ok (.iconst 1, 1)) ∧ (decode cL_law 441 = .ok (.iadd, 1)) ∧ (decode cL_law 442 = .ok (.iaload, 1)) ∧ (decode cL_law 443 = .ok (.aload_n 3, 1)) ∧ (decode cL_law 444 = .ok (.invokestatic 163, 3)) ∧ (decode cL_law 447 = .ok (.istore 6, 2)) ∧ (decode cL_law 449 = .ok (.aload_n 2, 1)) := by decide +kernel
theorem dL_law_438 : decode cL_law 438 = .ok (.iload 5, 2) := dg_24.1
theorem dL_law_440 : decode cL_law 440 = .ok (.iconst 1, 1) := dg_24.2.1
theorem dL_law_441 : decode cL_law 441 = .ok (.iadd, 1) := dg_24.2.2.1
theorem dL_law_442 : decode cL_law 442 = .ok (.iaload, 1) := dg_24.2.2.2.1
theorem dL_law_443 : decode cL_law 443 = .ok (.aload_n 3, 1) := dg_24.2.2.2.2.1
theorem dL_law_444 : decode cL_law 444 = .ok (.invokestatic 163, 3) := dg_24.2.2.2.2.2.1
theorem dL_law_447 : decode cL_law 447 = .ok (.istore 6, 2) := dg_24.2.2.2.2.2.2.1
theorem dL_law_449 : decode cL_law 449 = .ok (.aload_n 2, 1) := dg_24.2.2.2.2.2.2.2
theorem dg_25 : (decode cL_law 450 = .ok (.aload_n 0, 1)) ∧ (decode cL_law 451 = .ok (.iload 5, 2)) ∧ (decode cL_law 453 = .ok (.iconst 1, 1)) ∧ (decode cL_law 454 = .ok (.iadd, 1)) ∧ (decode cL_law 455 = .ok (.iaload, 1)) ∧ (decode cL_law 456 = .ok (.invokevirtual 165, 3)) ∧ (decode cL_law 459 = .ok (.istore 7, 2)) ∧ (decode cL_law 461 = .ok (.goto 833, 3)) := by decide +kernel
theorem dL_law_450 : decode cL_law 450 = .ok (.aload_n 0, 1) := dg_25.1
theorem dL_law_451 : decode cL_law 451 = .ok (.iload 5, 2) := dg_25.2.1
theorem dL_law_453 : decode cL_law 453 = .ok (.iconst 1, 1) := dg_25.2.2.1
theorem dL_law_454 : decode cL_law 454 = .ok (.iadd, 1) := dg_25.2.2.2.1
theorem dL_law_455 : decode cL_law 455 = .ok (.iaload, 1) := dg_25.2.2.2.2.1
theorem dL_law_456 : decode cL_law 456 = .ok (.invokevirtual 165, 3) := dg_25.2.2.2.2.2.1
theorem dL_law_459 : decode cL_law 459 = .ok (.istore 7, 2) := dg_25.2.2.2.2.2.2.1
theorem dL_law_461 : decode cL_law 461 = .ok (.goto 833, 3) := dg_25.2.2.2.2.2.2.2
theorem dg_26 : (decode cL_law 464 = .ok (.aload_n 1, 1)) ∧ (decode cL_law 465 = .ok (.aload_n 0, 1)) ∧ (decode cL_law 466 = .ok (.iload 5, 2)) ∧ (decode cL_law 468 = .ok (.iconst 1, 1)) ∧ (decode cL_law 469 = .ok (.iadd, 1)) ∧ (decode cL_law 470 = .ok (.iaload, 1)) ∧ (decode cL_law 471 = .ok (.aload_n 0, 1)) ∧ (decode cL_law 472 = .ok (.iload 5, 2)) := by decide +kernel
theorem dL_law_464 : decode cL_law 464 = .ok (.aload_n 1, 1) := dg_26.1
theorem dL_law_465 : decode cL_law 465 = .ok (.aload_n 0, 1) := dg_26.2.1
theorem dL_law_466 : decode cL_law 466 = .ok (.iload 5, 2) := dg_26.2.2.1
theorem dL_law_468 : decode cL_law 468 = .ok (.iconst 1, 1) := dg_26.2.2.2.1
theorem dL_law_469 : decode cL_law 469 = .ok (.iadd, 1) := dg_26.2.2.2.2.1
theorem dL_law_470 : decode cL_law 470 = .ok (.iaload, 1) := dg_26.2.2.2.2.2.1
theorem dL_law_471 : decode cL_law 471 = .ok (.aload_n 0, 1) := dg_26.2.2.2.2.2.2.1
theorem dL_law_472 : decode cL_law 472 = .ok (.iload 5, 2) := dg_26.2.2.2.2.2.2.2
theorem dg_27 : (decode cL_law 474 = .ok (.iconst 2, 1)) ∧ (decode cL_law 475 = .ok (.iadd, 1)) ∧ (decode cL_law 476 = .ok (.iaload, 1)) ∧ (decode cL_law 477 = .ok (.aload_n 3, 1)) ∧ (decode cL_law 478 = .ok (.invokestatic 166, 3)) ∧ (decode cL_law 481 = .ok (.istore 6, 2)) ∧ (decode cL_law 483 = .ok (.aload_n 2, 1)) ∧ (decode cL_law 484 = .ok (.aload_n 0, 1)) := by decide +kernel
theorem dL_law_474 : decode cL_law 474 = .ok (.iconst 2, 1) := dg_27.1
theorem dL_law_475 : decode cL_law 475 = .ok (.iadd, 1) := dg_27.2.1
theorem dL_law_476 : decode cL_law 476 = .ok (.iaload, 1) := dg_27.2.2.1
theorem dL_law_477 : decode cL_law 477 = .ok (.aload_n 3, 1) := dg_27.2.2.2.1
theorem dL_law_478 : decode cL_law 478 = .ok (.invokestatic 166, 3) := dg_27.2.2.2.2.1
theorem dL_law_481 : decode cL_law 481 = .ok (.istore 6, 2) := dg_27.2.2.2.2.2.1
theorem dL_law_483 : decode cL_law 483 = .ok (.aload_n 2, 1) := dg_27.2.2.2.2.2.2.1
theorem dL_law_484 : decode cL_law 484 = .ok (.aload_n 0, 1) := dg_27.2.2.2.2.2.2.2
theorem dg_28 : (decode cL_law 485 = .ok (.iload 5, 2)) ∧ (decode cL_law 487 = .ok (.iconst 1, 1)) ∧ (decode cL_law 488 = .ok (.iadd, 1)) ∧ (decode cL_law 489 = .ok (.iaload, 1)) ∧ (decode cL_law 490 = .ok (.aload_n 0, 1)) ∧ (decode cL_law 491 = .ok (.iload 5, 2)) ∧ (decode cL_law 493 = .ok (.iconst 2, 1)) ∧ (decode cL_law 494 = .ok (.iadd, 1)) := by decide +kernel
theorem dL_law_485 : decode cL_law 485 = .ok (.iload 5, 2) := dg_28.1
theorem dL_law_487 : decode cL_law 487 = .ok (.iconst 1, 1) := dg_28.2.1
theorem dL_law_488 : decode cL_law 488 = .ok (.iadd, 1) := dg_28.2.2.1
theorem dL_law_489 : decode cL_law 489 = .ok (.iaload, 1) := dg_28.2.2.2.1
theorem dL_law_490 : decode cL_law 490 = .ok (.aload_n 0, 1) := dg_28.2.2.2.2.1
theorem dL_law_491 : decode cL_law 491 = .ok (.iload 5, 2) := dg_28.2.2.2.2.2.1
theorem dL_law_493 : decode cL_law 493 = .ok (.iconst 2, 1) := dg_28.2.2.2.2.2.2.1
theorem dL_law_494 : decode cL_law 494 = .ok (.iadd, 1) := dg_28.2.2.2.2.2.2.2
theorem dg_29 : (decode cL_law 495 = .ok (.iaload, 1)) ∧ (decode cL_law 496 = .ok (.invokevirtual 168, 3)) ∧ (decode cL_law 499 = .ok (.istore 7, 2)) ∧ (decode cL_law 501 = .ok (.goto 793, 3)) ∧ (decode cL_law 504 = .ok (.aload_n 1, 1)) ∧ (decode cL_law 505 = .ok (.aload_n 3, 1)) ∧ (decode cL_law 506 = .ok (.invokestatic 169, 3)) ∧ (decode cL_law 509 = .ok (.istore 6, 2)) := by decide +kernel
theorem dL_law_495 : decode cL_law 495 = .ok (.iaload, 1) := dg_29.1
theorem dL_law_496 : decode cL_law 496 = .ok (.invokevirtual 168, 3) := dg_29.2.1
theorem dL_law_499 : decode cL_law 499 = .ok (.istore 7, 2) := dg_29.2.2.1
theorem dL_law_501 : decode cL_law 501 = .ok (.goto 793, 3) := dg_29.2.2.2.1
theorem dL_law_504 : decode cL_law 504 = .ok (.aload_n 1, 1) := dg_29.2.2.2.2.1
theorem dL_law_505 : decode cL_law 505 = .ok (.aload_n 3, 1) := dg_29.2.2.2.2.2.1
theorem dL_law_506 : decode cL_law 506 = .ok (.invokestatic 169, 3) := dg_29.2.2.2.2.2.2.1
theorem dL_law_509 : decode cL_law 509 = .ok (.istore 6, 2) := dg_29.2.2.2.2.2.2.2
theorem dg_30 : (decode cL_law 511 = .ok (.aload_n 2, 1)) ∧ (decode cL_law 512 = .ok (.invokevirtual 171, 3)) ∧ (decode cL_law 515 = .ok (.istore 7, 2)) ∧ (decode cL_law 517 = .ok (.goto 777, 3)) ∧ (decode cL_law 520 = .ok (.aload_n 1, 1)) ∧ (decode cL_law 521 = .ok (.aload_n 0, 1)) ∧ (decode cL_law 522 = .ok (.iload 5, 2)) ∧ (decode cL_law 524 = .ok (.iconst 1, 1)) := by decide +kernel
theorem dL_law_511 : decode cL_law 511 = .ok (.aload_n 2, 1) := dg_30.1
theorem dL_law_512 : decode cL_law 512 = .ok (.invokevirtual 171, 3) := dg_30.2.1
theorem dL_law_515 : decode cL_law 515 = .ok (.istore 7, 2) := dg_30.2.2.1
theorem dL_law_517 : decode cL_law 517 = .ok (.goto 777, 3) := dg_30.2.2.2.1
theorem dL_law_520 : decode cL_law 520 = .ok (.aload_n 1, 1) := dg_30.2.2.2.2.1
theorem dL_law_521 : decode cL_law 521 = .ok (.aload_n 0, 1) := dg_30.2.2.2.2.2.1
theorem dL_law_522 : decode cL_law 522 = .ok (.iload 5, 2) := dg_30.2.2.2.2.2.2.1
theorem dL_law_524 : decode cL_law 524 = .ok (.iconst 1, 1) := dg_30.2.2.2.2.2.2.2
theorem dg_31 : (decode cL_law 525 = .ok (.iadd, 1)) ∧ (decode cL_law 526 = .ok (.iaload, 1)) ∧ (decode cL_law 527 = .ok (.aload_n 0, 1)) ∧ (decode cL_law 528 = .ok (.iload 5, 2)) ∧ (decode cL_law 530 = .ok (.iconst 2, 1)) ∧ (decode cL_law 531 = .ok (.iadd, 1)) ∧ (decode cL_law 532 = .ok (.iaload, 1)) ∧ (decode cL_law 533 = .ok (.aload_n 3, 1)) := by decide +kernel
theorem dL_law_525 : decode cL_law 525 = .ok (.iadd, 1) := dg_31.1
theorem dL_law_526 : decode cL_law 526 = .ok (.iaload, 1) := dg_31.2.1
theorem dL_law_527 : decode cL_law 527 = .ok (.aload_n 0, 1) := dg_31.2.2.1
theorem dL_law_528 : decode cL_law 528 = .ok (.iload 5, 2) := dg_31.2.2.2.1
theorem dL_law_530 : decode cL_law 530 = .ok (.iconst 2, 1) := dg_31.2.2.2.2.1
theorem dL_law_531 : decode cL_law 531 = .ok (.iadd, 1) := dg_31.2.2.2.2.2.1
theorem dL_law_532 : decode cL_law 532 = .ok (.iaload, 1) := dg_31.2.2.2.2.2.2.1
theorem dL_law_533 : decode cL_law 533 = .ok (.aload_n 3, 1) := dg_31.2.2.2.2.2.2.2
theorem dg_32 : (decode cL_law 534 = .ok (.invokestatic 172, 3)) ∧ (decode cL_law 537 = .ok (.istore 6, 2)) ∧ (decode cL_law 539 = .ok (.aload_n 2, 1)) ∧ (decode cL_law 540 = .ok (.aload_n 0, 1)) ∧ (decode cL_law 541 = .ok (.iload 5, 2)) ∧ (decode cL_law 543 = .ok (.iconst 1, 1)) ∧ (decode cL_law 544 = .ok (.iadd, 1)) ∧ (decode cL_law 545 = .ok (.iaload, 1)) := by decide +kernel
theorem dL_law_534 : decode cL_law 534 = .ok (.invokestatic 172, 3) := dg_32.1
theorem dL_law_537 : decode cL_law 537 = .ok (.istore 6, 2) := dg_32.2.1
theorem dL_law_539 : decode cL_law 539 = .ok (.aload_n 2, 1) := dg_32.2.2.1
theorem dL_law_540 : decode cL_law 540 = .ok (.aload_n 0, 1) := dg_32.2.2.2.1
theorem dL_law_541 : decode cL_law 541 = .ok (.iload 5, 2) := dg_32.2.2.2.2.1
theorem dL_law_543 : decode cL_law 543 = .ok (.iconst 1, 1) := dg_32.2.2.2.2.2.1
theorem dL_law_544 : decode cL_law 544 = .ok (.iadd, 1) := dg_32.2.2.2.2.2.2.1
theorem dL_law_545 : decode cL_law 545 = .ok (.iaload, 1) := dg_32.2.2.2.2.2.2.2
theorem dg_33 : (decode cL_law 546 = .ok (.aload_n 0, 1)) ∧ (decode cL_law 547 = .ok (.iload 5, 2)) ∧ (decode cL_law 549 = .ok (.iconst 2, 1)) ∧ (decode cL_law 550 = .ok (.iadd, 1)) ∧ (decode cL_law 551 = .ok (.iaload, 1)) ∧ (decode cL_law 552 = .ok (.invokevirtual 174, 3)) ∧ (decode cL_law 555 = .ok (.istore 7, 2)) ∧ (decode cL_law 557 = .ok (.goto 737, 3)) := by decide +kernel
theorem dL_law_546 : decode cL_law 546 = .ok (.aload_n 0, 1) := dg_33.1
theorem dL_law_547 : decode cL_law 547 = .ok (.iload 5, 2) := dg_33.2.1
theorem dL_law_549 : decode cL_law 549 = .ok (.iconst 2, 1) := dg_33.2.2.1
theorem dL_law_550 : decode cL_law 550 = .ok (.iadd, 1) := dg_33.2.2.2.1
theorem dL_law_551 : decode cL_law 551 = .ok (.iaload, 1) := dg_33.2.2.2.2.1
theorem dL_law_552 : decode cL_law 552 = .ok (.invokevirtual 174, 3) := dg_33.2.2.2.2.2.1
theorem dL_law_555 : decode cL_law 555 = .ok (.istore 7, 2) := dg_33.2.2.2.2.2.2.1
theorem dL_law_557 : decode cL_law 557 = .ok (.goto 737, 3) := dg_33.2.2.2.2.2.2.2
theorem dg_34 : (decode cL_law 560 = .ok (.aload_n 1, 1)) ∧ (decode cL_law 561 = .ok (.aload_n 0, 1)) ∧ (decode cL_law 562 = .ok (.iload 5, 2)) ∧ (decode cL_law 564 = .ok (.iconst 1, 1)) ∧ (decode cL_law 565 = .ok (.iadd, 1)) ∧ (decode cL_law 566 = .ok (.iaload, 1)) ∧ (decode cL_law 567 = .ok (.aload_n 3, 1)) ∧ (decode cL_law 568 = .ok (.invokestatic 175, 3)) := by decide +kernel
theorem dL_law_560 : decode cL_law 560 = .ok (.aload_n 1, 1) := dg_34.1
theorem dL_law_561 : decode cL_law 561 = .ok (.aload_n 0, 1) := dg_34.2.1
theorem dL_law_562 : decode cL_law 562 = .ok (.iload 5, 2) := dg_34.2.2.1
theorem dL_law_564 : decode cL_law 564 = .ok (.iconst 1, 1) := dg_34.2.2.2.1
theorem dL_law_565 : decode cL_law 565 = .ok (.iadd, 1) := dg_34.2.2.2.2.1
theorem dL_law_566 : decode cL_law 566 = .ok (.iaload, 1) := dg_34.2.2.2.2.2.1
theorem dL_law_567 : decode cL_law 567 = .ok (.aload_n 3, 1) := dg_34.2.2.2.2.2.2.1
theorem dL_law_568 : decode cL_law 568 = .ok (.invokestatic 175, 3) := dg_34.2.2.2.2.2.2.2
theorem dg_35 : (decode cL_law 571 = .ok (.istore 6, 2)) ∧ (decode cL_law 573 = .ok (.aload_n 2, 1)) ∧ (decode cL_law 574 = .ok (.aload_n 0, 1)) ∧ (decode cL_law 575 = .ok (.iload 5, 2)) ∧ (decode cL_law 577 = .ok (.iconst 1, 1)) ∧ (decode cL_law 578 = .ok (.iadd, 1)) ∧ (decode cL_law 579 = .ok (.iaload, 1)) ∧ (decode cL_law 580 = .ok (.invokevirtual 177, 3)) := by decide +kernel
theorem dL_law_571 : decode cL_law 571 = .ok (.istore 6, 2) := dg_35.1
theorem dL_law_573 : decode cL_law 573 = .ok (.aload_n 2, 1) := dg_35.2.1
theorem dL_law_574 : decode cL_law 574 = .ok (.aload_n 0, 1) := dg_35.2.2.1
theorem dL_law_575 : decode cL_law 575 = .ok (.iload 5, 2) := dg_35.2.2.2.1
theorem dL_law_577 : decode cL_law 577 = .ok (.iconst 1, 1) := dg_35.2.2.2.2.1
theorem dL_law_578 : decode cL_law 578 = .ok (.iadd, 1) := dg_35.2.2.2.2.2.1
theorem dL_law_579 : decode cL_law 579 = .ok (.iaload, 1) := dg_35.2.2.2.2.2.2.1
theorem dL_law_580 : decode cL_law 580 = .ok (.invokevirtual 177, 3) := dg_35.2.2.2.2.2.2.2
theorem dg_36 : (decode cL_law 583 = .ok (.istore 7, 2)) ∧ (decode cL_law 585 = .ok (.goto 709, 3)) ∧ (decode cL_law 588 = .ok (.aload_n 1, 1)) ∧ (decode cL_law 589 = .ok (.aload_n 0, 1)) ∧ (decode cL_law 590 = .ok (.iload 5, 2)) ∧ (decode cL_law 592 = .ok (.iconst 1, 1)) ∧ (decode cL_law 593 = .ok (.iadd, 1)) ∧ (decode cL_law 594 = .ok (.iaload, 1)) := by decide +kernel
theorem dL_law_583 : decode cL_law 583 = .ok (.istore 7, 2) := dg_36.1
theorem dL_law_585 : decode cL_law 585 = .ok (.goto 709, 3) := dg_36.2.1
theorem dL_law_588 : decode cL_law 588 = .ok (.aload_n 1, 1) := dg_36.2.2.1
theorem dL_law_589 : decode cL_law 589 = .ok (.aload_n 0, 1) := dg_36.2.2.2.1
theorem dL_law_590 : decode cL_law 590 = .ok (.iload 5, 2) := dg_36.2.2.2.2.1
theorem dL_law_592 : decode cL_law 592 = .ok (.iconst 1, 1) := dg_36.2.2.2.2.2.1
theorem dL_law_593 : decode cL_law 593 = .ok (.iadd, 1) := dg_36.2.2.2.2.2.2.1
theorem dL_law_594 : decode cL_law 594 = .ok (.iaload, 1) := dg_36.2.2.2.2.2.2.2
theorem dg_37 : (decode cL_law 595 = .ok (.aload_n 0, 1)) ∧ (decode cL_law 596 = .ok (.iload 5, 2)) ∧ (decode cL_law 598 = .ok (.iconst 2, 1)) ∧ (decode cL_law 599 = .ok (.iadd, 1)) ∧ (decode cL_law 600 = .ok (.iaload, 1)) ∧ (decode cL_law 601 = .ok (.aload_n 3, 1)) ∧ (decode cL_law 602 = .ok (.invokestatic 178, 3)) ∧ (decode cL_law 605 = .ok (.istore 6, 2)) := by decide +kernel
theorem dL_law_595 : decode cL_law 595 = .ok (.aload_n 0, 1) := dg_37.1
theorem dL_law_596 : decode cL_law 596 = .ok (.iload 5, 2) := dg_37.2.1
theorem dL_law_598 : decode cL_law 598 = .ok (.iconst 2, 1) := dg_37.2.2.1
theorem dL_law_599 : decode cL_law 599 = .ok (.iadd, 1) := dg_37.2.2.2.1
theorem dL_law_600 : decode cL_law 600 = .ok (.iaload, 1) := dg_37.2.2.2.2.1
theorem dL_law_601 : decode cL_law 601 = .ok (.aload_n 3, 1) := dg_37.2.2.2.2.2.1
theorem dL_law_602 : decode cL_law 602 = .ok (.invokestatic 178, 3) := dg_37.2.2.2.2.2.2.1
theorem dL_law_605 : decode cL_law 605 = .ok (.istore 6, 2) := dg_37.2.2.2.2.2.2.2
theorem dg_38 : (decode cL_law 607 = .ok (.aload_n 2, 1)) ∧ (decode cL_law 608 = .ok (.aload_n 0, 1)) ∧ (decode cL_law 609 = .ok (.iload 5, 2)) ∧ (decode cL_law 611 = .ok (.iconst 1, 1)) ∧ (decode cL_law 612 = .ok (.iadd, 1)) ∧ (decode cL_law 613 = .ok (.iaload, 1)) ∧ (decode cL_law 614 = .ok (.aload_n 0, 1)) ∧ (decode cL_law 615 = .ok (.iload 5, 2)) := by decide +kernel
theorem dL_law_607 : decode cL_law 607 = .ok (.aload_n 2, 1) := dg_38.1
theorem dL_law_608 : decode cL_law 608 = .ok (.aload_n 0, 1) := dg_38.2.1
theorem dL_law_609 : decode cL_law 609 = .ok (.iload 5, 2) := dg_38.2.2.1
theorem dL_law_611 : decode cL_law 611 = .ok (.iconst 1, 1) := dg_38.2.2.2.1
theorem dL_law_612 : decode cL_law 612 = .ok (.iadd, 1) := dg_38.2.2.2.2.1
theorem dL_law_613 : decode cL_law 613 = .ok (.iaload, 1) := dg_38.2.2.2.2.2.1
theorem dL_law_614 : decode cL_law 614 = .ok (.aload_n 0, 1) := dg_38.2.2.2.2.2.2.1
theorem dL_law_615 : decode cL_law 615 = .ok (.iload 5, 2) := dg_38.2.2.2.2.2.2.2
theorem dg_39 : (decode cL_law 617 = .ok (.iconst 2, 1)) ∧ (decode cL_law 618 = .ok (.iadd, 1)) ∧ (decode cL_law 619 = .ok (.iaload, 1)) ∧ (decode cL_law 620 = .ok (.invokevirtual 180, 3)) ∧ (decode cL_law 623 = .ok (.istore 7, 2)) ∧ (decode cL_law 625 = .ok (.goto 669, 3)) ∧ (decode cL_law 628 = .ok (.aload_n 1, 1)) ∧ (decode cL_law 629 = .ok (.aload_n 0, 1)) := by decide +kernel
theorem dL_law_617 : decode cL_law 617 = .ok (.iconst 2, 1) := dg_39.1
theorem dL_law_618 : decode cL_law 618 = .ok (.iadd, 1) := dg_39.2.1
theorem dL_law_619 : decode cL_law 619 = .ok (.iaload, 1) := dg_39.2.2.1
theorem dL_law_620 : decode cL_law 620 = .ok (.invokevirtual 180, 3) := dg_39.2.2.2.1
theorem dL_law_623 : decode cL_law 623 = .ok (.istore 7, 2) := dg_39.2.2.2.2.1
theorem dL_law_625 : decode cL_law 625 = .ok (.goto 669, 3) := dg_39.2.2.2.2.2.1
theorem dL_law_628 : decode cL_law 628 = .ok (.aload_n 1, 1) := dg_39.2.2.2.2.2.2.1
theorem dL_law_629 : decode cL_law 629 = .ok (.aload_n 0, 1) := dg_39.2.2.2.2.2.2.2
theorem dg_40 : (decode cL_law 630 = .ok (.iload 5, 2)) ∧ (decode cL_law 632 = .ok (.iconst 1, 1)) ∧ (decode cL_law 633 = .ok (.iadd, 1)) ∧ (decode cL_law 634 = .ok (.iaload, 1)) ∧ (decode cL_law 635 = .ok (.aload_n 0, 1)) ∧ (decode cL_law 636 = .ok (.iload 5, 2)) ∧ (decode cL_law 638 = .ok (.iconst 2, 1)) ∧ (decode cL_law 639 = .ok (.iadd, 1)) := by decide +kernel
theorem dL_law_630 : decode cL_law 630 = .ok (.iload 5, 2) := dg_40.1
theorem dL_law_632 : decode cL_law 632 = .ok (.iconst 1, 1) := dg_40.2.1
theorem dL_law_633 : decode cL_law 633 = .ok (.iadd, 1) := dg_40.2.2.1
theorem dL_law_634 : decode cL_law 634 = .ok (.iaload, 1) := dg_40.2.2.2.1
theorem dL_law_635 : decode cL_law 635 = .ok (.aload_n 0, 1) := dg_40.2.2.2.2.1
theorem dL_law_636 : decode cL_law 636 = .ok (.iload 5, 2) := dg_40.2.2.2.2.2.1
theorem dL_law_638 : decode cL_law 638 = .ok (.iconst 2, 1) := dg_40.2.2.2.2.2.2.1
theorem dL_law_639 : decode cL_law 639 = .ok (.iadd, 1) := dg_40.2.2.2.2.2.2.2
theorem dg_41 : (decode cL_law 640 = .ok (.iaload, 1)) ∧ (decode cL_law 641 = .ok (.aload_n 3, 1)) ∧ (decode cL_law 642 = .ok (.invokestatic 181, 3)) ∧ (decode cL_law 645 = .ok (.istore 6, 2)) ∧ (decode cL_law 647 = .ok (.aload_n 2, 1)) ∧ (decode cL_law 648 = .ok (.aload_n 0, 1)) ∧ (decode cL_law 649 = .ok (.iload 5, 2)) ∧ (decode cL_law 651 = .ok (.iconst 1, 1)) := by decide +kernel
theorem dL_law_640 : decode cL_law 640 = .ok (.iaload, 1) := dg_41.1
theorem dL_law_641 : decode cL_law 641 = .ok (.aload_n 3, 1) := dg_41.2.1
theorem dL_law_642 : decode cL_law 642 = .ok (.invokestatic 181, 3) := dg_41.2.2.1
theorem dL_law_645 : decode cL_law 645 = .ok (.istore 6, 2) := dg_41.2.2.2.1
theorem dL_law_647 : decode cL_law 647 = .ok (.aload_n 2, 1) := dg_41.2.2.2.2.1
theorem dL_law_648 : decode cL_law 648 = .ok (.aload_n 0, 1) := dg_41.2.2.2.2.2.1
theorem dL_law_649 : decode cL_law 649 = .ok (.iload 5, 2) := dg_41.2.2.2.2.2.2.1
theorem dL_law_651 : decode cL_law 651 = .ok (.iconst 1, 1) := dg_41.2.2.2.2.2.2.2
theorem dg_42 : (decode cL_law 652 = .ok (.iadd, 1)) ∧ (decode cL_law 653 = .ok (.iaload, 1)) ∧ (decode cL_law 654 = .ok (.aload_n 0, 1)) ∧ (decode cL_law 655 = .ok (.iload 5, 2)) ∧ (decode cL_law 657 = .ok (.iconst 2, 1)) ∧ (decode cL_law 658 = .ok (.iadd, 1)) ∧ (decode cL_law 659 = .ok (.iaload, 1)) ∧ (decode cL_law 660 = .ok (.invokevirtual 183, 3)) := by decide +kernel
theorem dL_law_652 : decode cL_law 652 = .ok (.iadd, 1) := dg_42.1
theorem dL_law_653 : decode cL_law 653 = .ok (.iaload, 1) := dg_42.2.1
theorem dL_law_654 : decode cL_law 654 = .ok (.aload_n 0, 1) := dg_42.2.2.1
theorem dL_law_655 : decode cL_law 655 = .ok (.iload 5, 2) := dg_42.2.2.2.1
theorem dL_law_657 : decode cL_law 657 = .ok (.iconst 2, 1) := dg_42.2.2.2.2.1
theorem dL_law_658 : decode cL_law 658 = .ok (.iadd, 1) := dg_42.2.2.2.2.2.1
theorem dL_law_659 : decode cL_law 659 = .ok (.iaload, 1) := dg_42.2.2.2.2.2.2.1
theorem dL_law_660 : decode cL_law 660 = .ok (.invokevirtual 183, 3) := dg_42.2.2.2.2.2.2.2
theorem dg_43 : (decode cL_law 663 = .ok (.istore 7, 2)) ∧ (decode cL_law 665 = .ok (.goto 629, 3)) ∧ (decode cL_law 668 = .ok (.aload_n 1, 1)) ∧ (decode cL_law 669 = .ok (.aload_n 0, 1)) ∧ (decode cL_law 670 = .ok (.iload 5, 2)) ∧ (decode cL_law 672 = .ok (.iconst 1, 1)) ∧ (decode cL_law 673 = .ok (.iadd, 1)) ∧ (decode cL_law 674 = .ok (.iaload, 1)) := by decide +kernel
theorem dL_law_663 : decode cL_law 663 = .ok (.istore 7, 2) := dg_43.1
theorem dL_law_665 : decode cL_law 665 = .ok (.goto 629, 3) := dg_43.2.1
theorem dL_law_668 : decode cL_law 668 = .ok (.aload_n 1, 1) := dg_43.2.2.1
theorem dL_law_669 : decode cL_law 669 = .ok (.aload_n 0, 1) := dg_43.2.2.2.1
theorem dL_law_670 : decode cL_law 670 = .ok (.iload 5, 2) := dg_43.2.2.2.2.1
theorem dL_law_672 : decode cL_law 672 = .ok (.iconst 1, 1) := dg_43.2.2.2.2.2.1
theorem dL_law_673 : decode cL_law 673 = .ok (.iadd, 1) := dg_43.2.2.2.2.2.2.1
theorem dL_law_674 : decode cL_law 674 = .ok (.iaload, 1) := dg_43.2.2.2.2.2.2.2
theorem dg_44 : (decode cL_law 675 = .ok (.aload_n 3, 1)) ∧ (decode cL_law 676 = .ok (.invokestatic 184, 3)) ∧ (decode cL_law 679 = .ok (.istore 6, 2)) ∧ (decode cL_law 681 = .ok (.aload_n 2, 1)) ∧ (decode cL_law 682 = .ok (.aload_n 0, 1)) ∧ (decode cL_law 683 = .ok (.iload 5, 2)) ∧ (decode cL_law 685 = .ok (.iconst 1, 1)) ∧ (decode cL_law 686 = .ok (.iadd, 1)) := by decide +kernel
theorem dL_law_675 : decode cL_law 675 = .ok (.aload_n 3, 1) := dg_44.1
theorem dL_law_676 : decode cL_law 676 = .ok (.invokestatic 184, 3) := dg_44.2.1
theorem dL_law_679 : decode cL_law 679 = .ok (.istore 6, 2) := dg_44.2.2.1
theorem dL_law_681 : decode cL_law 681 = .ok (.aload_n 2, 1) := dg_44.2.2.2.1
theorem dL_law_682 : decode cL_law 682 = .ok (.aload_n 0, 1) := dg_44.2.2.2.2.1
theorem dL_law_683 : decode cL_law 683 = .ok (.iload 5, 2) := dg_44.2.2.2.2.2.1
theorem dL_law_685 : decode cL_law 685 = .ok (.iconst 1, 1) := dg_44.2.2.2.2.2.2.1
theorem dL_law_686 : decode cL_law 686 = .ok (.iadd, 1) := dg_44.2.2.2.2.2.2.2
theorem dg_45 : (decode cL_law 687 = .ok (.iaload, 1)) ∧ (decode cL_law 688 = .ok (.invokevirtual 186, 3)) ∧ (decode cL_law 691 = .ok (.istore 7, 2)) ∧ (decode cL_law 693 = .ok (.goto 601, 3)) ∧ (decode cL_law 696 = .ok (.aload_n 1, 1)) ∧ (decode cL_law 697 = .ok (.aload_n 0, 1)) ∧ (decode cL_law 698 = .ok (.iload 5, 2)) ∧ (decode cL_law 700 = .ok (.iconst 1, 1)) := by decide +kernel
theorem dL_law_687 : decode cL_law 687 = .ok (.iaload, 1) := dg_45.1
theorem dL_law_688 : decode cL_law 688 = .ok (.invokevirtual 186, 3) := dg_45.2.1
theorem dL_law_691 : decode cL_law 691 = .ok (.istore 7, 2) := dg_45.2.2.1
theorem dL_law_693 : decode cL_law 693 = .ok (.goto 601, 3) := dg_45.2.2.2.1
theorem dL_law_696 : decode cL_law 696 = .ok (.aload_n 1, 1) := dg_45.2.2.2.2.1
theorem dL_law_697 : decode cL_law 697 = .ok (.aload_n 0, 1) := dg_45.2.2.2.2.2.1
theorem dL_law_698 : decode cL_law 698 = .ok (.iload 5, 2) := dg_45.2.2.2.2.2.2.1
theorem dL_law_700 : decode cL_law 700 = .ok (.iconst 1, 1) := dg_45.2.2.2.2.2.2.2
theorem dg_46 : (decode cL_law 701 = .ok (.iadd, 1)) ∧ (decode cL_law 702 = .ok (.iaload, 1)) ∧ (decode cL_law 703 = .ok (.aload_n 3, 1)) ∧ (decode cL_law 704 = .ok (.invokestatic 187, 3)) ∧ (decode cL_law 707 = .ok (.istore 6, 2)) ∧ (decode cL_law 709 = .ok (.aload_n 2, 1)) ∧ (decode cL_law 710 = .ok (.aload_n 0, 1)) ∧ (decode cL_law 711 = .ok (.iload 5, 2)) := by decide +kernel
theorem dL_law_701 : decode cL_law 701 = .ok (.iadd, 1) := dg_46.1
theorem dL_law_702 : decode cL_law 702 = .ok (.iaload, 1) := dg_46.2.1
theorem dL_law_703 : decode cL_law 703 = .ok (.aload_n 3, 1) := dg_46.2.2.1
theorem dL_law_704 : decode cL_law 704 = .ok (.invokestatic 187, 3) := dg_46.2.2.2.1
theorem dL_law_707 : decode cL_law 707 = .ok (.istore 6, 2) := dg_46.2.2.2.2.1
theorem dL_law_709 : decode cL_law 709 = .ok (.aload_n 2, 1) := dg_46.2.2.2.2.2.1
theorem dL_law_710 : decode cL_law 710 = .ok (.aload_n 0, 1) := dg_46.2.2.2.2.2.2.1
theorem dL_law_711 : decode cL_law 711 = .ok (.iload 5, 2) := dg_46.2.2.2.2.2.2.2
theorem dg_47 : (decode cL_law 713 = .ok (.iconst 1, 1)) ∧ (decode cL_law 714 = .ok (.iadd, 1)) ∧ (decode cL_law 715 = .ok (.iaload, 1)) ∧ (decode cL_law 716 = .ok (.invokevirtual 189, 3)) ∧ (decode cL_law 719 = .ok (.istore 7, 2)) ∧ (decode cL_law 721 = .ok (.goto 573, 3)) ∧ (decode cL_law 724 = .ok (.aload_n 1, 1)) ∧ (decode cL_law 725 = .ok (.aload_n 0, 1)) := by decide +kernel
theorem dL_law_713 : decode cL_law 713 = .ok (.iconst 1, 1) := dg_47.1
theorem dL_law_714 : decode cL_law 714 = .ok (.iadd, 1) := dg_47.2.1
theorem dL_law_715 : decode cL_law 715 = .ok (.iaload, 1) := dg_47.2.2.1
theorem dL_law_716 : decode cL_law 716 = .ok (.invokevirtual 189, 3) := dg_47.2.2.2.1
theorem dL_law_719 : decode cL_law 719 = .ok (.istore 7, 2) := dg_47.2.2.2.2.1
theorem dL_law_721 : decode cL_law 721 = .ok (.goto 573, 3) := dg_47.2.2.2.2.2.1
theorem dL_law_724 : decode cL_law 724 = .ok (.aload_n 1, 1) := dg_47.2.2.2.2.2.2.1
theorem dL_law_725 : decode cL_law 725 = .ok (.aload_n 0, 1) := dg_47.2.2.2.2.2.2.2
theorem dg_48 : (decode cL_law 726 = .ok (.iload 5, 2)) ∧ (decode cL_law 728 = .ok (.iconst 1, 1)) ∧ (decode cL_law 729 = .ok (.iadd, 1)) ∧ (decode cL_law 730 = .ok (.iaload, 1)) ∧ (decode cL_law 731 = .ok (.aload_n 3, 1)) ∧ (decode cL_law 732 = .ok (.invokestatic 190, 3)) ∧ (decode cL_law 735 = .ok (.istore 6, 2)) ∧ (decode cL_law 737 = .ok (.aload_n 2, 1)) := by decide +kernel
theorem dL_law_726 : decode cL_law 726 = .ok (.iload 5, 2) := dg_48.1
theorem dL_law_728 : decode cL_law 728 = .ok (.iconst 1, 1) := dg_48.2.1
theorem dL_law_729 : decode cL_law 729 = .ok (.iadd, 1) := dg_48.2.2.1
theorem dL_law_730 : decode cL_law 730 = .ok (.iaload, 1) := dg_48.2.2.2.1
theorem dL_law_731 : decode cL_law 731 = .ok (.aload_n 3, 1) := dg_48.2.2.2.2.1
theorem dL_law_732 : decode cL_law 732 = .ok (.invokestatic 190, 3) := dg_48.2.2.2.2.2.1
theorem dL_law_735 : decode cL_law 735 = .ok (.istore 6, 2) := dg_48.2.2.2.2.2.2.1
theorem dL_law_737 : decode cL_law 737 = .ok (.aload_n 2, 1) := dg_48.2.2.2.2.2.2.2
theorem dg_49 : (decode cL_law 738 = .ok (.aload_n 0, 1)) ∧ (decode cL_law 739 = .ok (.iload 5, 2)) ∧ (decode cL_law 741 = .ok (.iconst 1, 1)) ∧ (decode cL_law 742 = .ok (.iadd, 1)) ∧ (decode cL_law 743 = .ok (.iaload, 1)) ∧ (decode cL_law 744 = .ok (.invokevirtual 192, 3)) ∧ (decode cL_law 747 = .ok (.istore 7, 2)) ∧ (decode cL_law 749 = .ok (.goto 545, 3)) := by decide +kernel
theorem dL_law_738 : decode cL_law 738 = .ok (.aload_n 0, 1) := dg_49.1
theorem dL_law_739 : decode cL_law 739 = .ok (.iload 5, 2) := dg_49.2.1
theorem dL_law_741 : decode cL_law 741 = .ok (.iconst 1, 1) := dg_49.2.2.1
theorem dL_law_742 : decode cL_law 742 = .ok (.iadd, 1) := dg_49.2.2.2.1
theorem dL_law_743 : decode cL_law 743 = .ok (.iaload, 1) := dg_49.2.2.2.2.1
theorem dL_law_744 : decode cL_law 744 = .ok (.invokevirtual 192, 3) := dg_49.2.2.2.2.2.1
theorem dL_law_747 : decode cL_law 747 = .ok (.istore 7, 2) := dg_49.2.2.2.2.2.2.1
theorem dL_law_749 : decode cL_law 749 = .ok (.goto 545, 3) := dg_49.2.2.2.2.2.2.2
theorem dg_50 : (decode cL_law 752 = .ok (.aload_n 1, 1)) ∧ (decode cL_law 753 = .ok (.aload_n 0, 1)) ∧ (decode cL_law 754 = .ok (.iload 5, 2)) ∧ (decode cL_law 756 = .ok (.iconst 1, 1)) ∧ (decode cL_law 757 = .ok (.iadd, 1)) ∧ (decode cL_law 758 = .ok (.iaload, 1)) ∧ (decode cL_law 759 = .ok (.aload_n 3, 1)) ∧ (decode cL_law 760 = .ok (.invokestatic 193, 3)) := by decide +kernel
theorem dL_law_752 : decode cL_law 752 = .ok (.aload_n 1, 1) := dg_50.1
theorem dL_law_753 : decode cL_law 753 = .ok (.aload_n 0, 1) := dg_50.2.1
theorem dL_law_754 : decode cL_law 754 = .ok (.iload 5, 2) := dg_50.2.2.1
theorem dL_law_756 : decode cL_law 756 = .ok (.iconst 1, 1) := dg_50.2.2.2.1
theorem dL_law_757 : decode cL_law 757 = .ok (.iadd, 1) := dg_50.2.2.2.2.1
theorem dL_law_758 : decode cL_law 758 = .ok (.iaload, 1) := dg_50.2.2.2.2.2.1
theorem dL_law_759 : decode cL_law 759 = .ok (.aload_n 3, 1) := dg_50.2.2.2.2.2.2.1
theorem dL_law_760 : decode cL_law 760 = .ok (.invokestatic 193, 3) := dg_50.2.2.2.2.2.2.2
theorem dg_51 : (decode cL_law 763 = .ok (.istore 6, 2)) ∧ (decode cL_law 765 = .ok (.aload_n 2, 1)) ∧ (decode cL_law 766 = .ok (.aload_n 0, 1)) ∧ (decode cL_law 767 = .ok (.iload 5, 2)) ∧ (decode cL_law 769 = .ok (.iconst 1, 1)) ∧ (decode cL_law 770 = .ok (.iadd, 1)) ∧ (decode cL_law 771 = .ok (.iaload, 1)) ∧ (decode cL_law 772 = .ok (.invokevirtual 195, 3)) := by decide +kernel
theorem dL_law_763 : decode cL_law 763 = .ok (.istore 6, 2) := dg_51.1
theorem dL_law_765 : decode cL_law 765 = .ok (.aload_n 2, 1) := dg_51.2.1
theorem dL_law_766 : decode cL_law 766 = .ok (.aload_n 0, 1) := dg_51.2.2.1
theorem dL_law_767 : decode cL_law 767 = .ok (.iload 5, 2) := dg_51.2.2.2.1
theorem dL_law_769 : decode cL_law 769 = .ok (.iconst 1, 1) := dg_51.2.2.2.2.1
theorem dL_law_770 : decode cL_law 770 = .ok (.iadd, 1) := dg_51.2.2.2.2.2.1
theorem dL_law_771 : decode cL_law 771 = .ok (.iaload, 1) := dg_51.2.2.2.2.2.2.1
theorem dL_law_772 : decode cL_law 772 = .ok (.invokevirtual 195, 3) := dg_51.2.2.2.2.2.2.2
theorem dg_52 : (decode cL_law 775 = .ok (.istore 7, 2)) ∧ (decode cL_law 777 = .ok (.goto 517, 3)) ∧ (decode cL_law 780 = .ok (.aload_n 1, 1)) ∧ (decode cL_law 781 = .ok (.aload_n 0, 1)) ∧ (decode cL_law 782 = .ok (.iload 5, 2)) ∧ (decode cL_law 784 = .ok (.iconst 1, 1)) ∧ (decode cL_law 785 = .ok (.iadd, 1)) ∧ (decode cL_law 786 = .ok (.iaload, 1)) := by decide +kernel
theorem dL_law_775 : decode cL_law 775 = .ok (.istore 7, 2) := dg_52.1
theorem dL_law_777 : decode cL_law 777 = .ok (.goto 517, 3) := dg_52.2.1
theorem dL_law_780 : decode cL_law 780 = .ok (.aload_n 1, 1) := dg_52.2.2.1
theorem dL_law_781 : decode cL_law 781 = .ok (.aload_n 0, 1) := dg_52.2.2.2.1
theorem dL_law_782 : decode cL_law 782 = .ok (.iload 5, 2) := dg_52.2.2.2.2.1
theorem dL_law_784 : decode cL_law 784 = .ok (.iconst 1, 1) := dg_52.2.2.2.2.2.1
theorem dL_law_785 : decode cL_law 785 = .ok (.iadd, 1) := dg_52.2.2.2.2.2.2.1
theorem dL_law_786 : decode cL_law 786 = .ok (.iaload, 1) := dg_52.2.2.2.2.2.2.2
theorem dg_53 : (decode cL_law 787 = .ok (.aload_n 3, 1)) ∧ (decode cL_law 788 = .ok (.invokestatic 196, 3)) ∧ (decode cL_law 791 = .ok (.istore 6, 2)) ∧ (decode cL_law 793 = .ok (.aload_n 2, 1)) ∧ (decode cL_law 794 = .ok (.aload_n 0, 1)) ∧ (decode cL_law 795 = .ok (.iload 5, 2)) ∧ (decode cL_law 797 = .ok (.iconst 1, 1)) ∧ (decode cL_law 798 = .ok (.iadd, 1)) := by decide +kernel
theorem dL_law_787 : decode cL_law 787 = .ok (.aload_n 3, 1) := dg_53.1
theorem dL_law_788 : decode cL_law 788 = .ok (.invokestatic 196, 3) := dg_53.2.1
theorem dL_law_791 : decode cL_law 791 = .ok (.istore 6, 2) := dg_53.2.2.1
theorem dL_law_793 : decode cL_law 793 = .ok (.aload_n 2, 1) := dg_53.2.2.2.1
theorem dL_law_794 : decode cL_law 794 = .ok (.aload_n 0, 1) := dg_53.2.2.2.2.1
theorem dL_law_795 : decode cL_law 795 = .ok (.iload 5, 2) := dg_53.2.2.2.2.2.1
theorem dL_law_797 : decode cL_law 797 = .ok (.iconst 1, 1) := dg_53.2.2.2.2.2.2.1
theorem dL_law_798 : decode cL_law 798 = .ok (.iadd, 1) := dg_53.2.2.2.2.2.2.2
theorem dg_54 : (decode cL_law 799 = .ok (.iaload, 1)) ∧ (decode cL_law 800 = .ok (.invokevirtual 198, 3)) ∧ (decode cL_law 803 = .ok (.istore 7, 2)) ∧ (decode cL_law 805 = .ok (.goto 489, 3)) ∧ (decode cL_law 808 = .ok (.aload_n 1, 1)) ∧ (decode cL_law 809 = .ok (.aload_n 0, 1)) ∧ (decode cL_law 810 = .ok (.iload 5, 2)) ∧ (decode cL_law 812 = .ok (.iconst 1, 1)) := by decide +kernel
theorem dL_law_799 : decode cL_law 799 = .ok (.iaload, 1) := dg_54.1
theorem dL_law_800 : decode cL_law 800 = .ok (.invokevirtual 198, 3) := dg_54.2.1
theorem dL_law_803 : decode cL_law 803 = .ok (.istore 7, 2) := dg_54.2.2.1
theorem dL_law_805 : decode cL_law 805 = .ok (.goto 489, 3) := dg_54.2.2.2.1
theorem dL_law_808 : decode cL_law 808 = .ok (.aload_n 1, 1) := dg_54.2.2.2.2.1
theorem dL_law_809 : decode cL_law 809 = .ok (.aload_n 0, 1) := dg_54.2.2.2.2.2.1
theorem dL_law_810 : decode cL_law 810 = .ok (.iload 5, 2) := dg_54.2.2.2.2.2.2.1
theorem dL_law_812 : decode cL_law 812 = .ok (.iconst 1, 1) := dg_54.2.2.2.2.2.2.2
theorem dg_55 : (decode cL_law 813 = .ok (.iadd, 1)) ∧ (decode cL_law 814 = .ok (.iaload, 1)) ∧ (decode cL_law 815 = .ok (.aload_n 3, 1)) ∧ (decode cL_law 816 = .ok (.invokestatic 199, 3)) ∧ (decode cL_law 819 = .ok (.istore 6, 2)) ∧ (decode cL_law 821 = .ok (.aload_n 2, 1)) ∧ (decode cL_law 822 = .ok (.aload_n 0, 1)) ∧ (decode cL_law 823 = .ok (.iload 5, 2)) := by decide +kernel
theorem dL_law_813 : decode cL_law 813 = .ok (.iadd, 1) := dg_55.1
theorem dL_law_814 : decode cL_law 814 = .ok (.iaload, 1) := dg_55.2.1
theorem dL_law_815 : decode cL_law 815 = .ok (.aload_n 3, 1) := dg_55.2.2.1
theorem dL_law_816 : decode cL_law 816 = .ok (.invokestatic 199, 3) := dg_55.2.2.2.1
theorem dL_law_819 : decode cL_law 819 = .ok (.istore 6, 2) := dg_55.2.2.2.2.1
theorem dL_law_821 : decode cL_law 821 = .ok (.aload_n 2, 1) := dg_55.2.2.2.2.2.1
theorem dL_law_822 : decode cL_law 822 = .ok (.aload_n 0, 1) := dg_55.2.2.2.2.2.2.1
theorem dL_law_823 : decode cL_law 823 = .ok (.iload 5, 2) := dg_55.2.2.2.2.2.2.2
theorem dg_56 : (decode cL_law 825 = .ok (.iconst 1, 1)) ∧ (decode cL_law 826 = .ok (.iadd, 1)) ∧ (decode cL_law 827 = .ok (.iaload, 1)) ∧ (decode cL_law 828 = .ok (.invokevirtual 201, 3)) ∧ (decode cL_law 831 = .ok (.istore 7, 2)) ∧ (decode cL_law 833 = .ok (.goto 461, 3)) ∧ (decode cL_law 836 = .ok (.aload_n 1, 1)) ∧ (decode cL_law 837 = .ok (.aload_n 0, 1)) := by decide +kernel
theorem dL_law_825 : decode cL_law 825 = .ok (.iconst 1, 1) := dg_56.1
theorem dL_law_826 : decode cL_law 826 = .ok (.iadd, 1) := dg_56.2.1
theorem dL_law_827 : decode cL_law 827 = .ok (.iaload, 1) := dg_56.2.2.1
theorem dL_law_828 : decode cL_law 828 = .ok (.invokevirtual 201, 3) := dg_56.2.2.2.1
theorem dL_law_831 : decode cL_law 831 = .ok (.istore 7, 2) := dg_56.2.2.2.2.1
theorem dL_law_833 : decode cL_law 833 = .ok (.goto 461, 3) := dg_56.2.2.2.2.2.1
theorem dL_law_836 : decode cL_law 836 = .ok (.aload_n 1, 1) := dg_56.2.2.2.2.2.2.1
theorem dL_law_837 : decode cL_law 837 = .ok (.aload_n 0, 1) := dg_56.2.2.2.2.2.2.2
theorem dg_57 : (decode cL_law 838 = .ok (.iload 5, 2)) ∧ (decode cL_law 840 = .ok (.iconst 1, 1)) ∧ (decode cL_law 841 = .ok (.iadd, 1)) ∧ (decode cL_law 842 = .ok (.iaload, 1)) ∧ (decode cL_law 843 = .ok (.aload_n 0, 1)) ∧ (decode cL_law 844 = .ok (.iload 5, 2)) ∧ (decode cL_law 846 = .ok (.iconst 2, 1)) ∧ (decode cL_law 847 = .ok (.iadd, 1)) := by decide +kernel
theorem dL_law_838 : decode cL_law 838 = .ok (.iload 5, 2) := dg_57.1
theorem dL_law_840 : decode cL_law 840 = .ok (.iconst 1, 1) := dg_57.2.1
theorem dL_law_841 : decode cL_law 841 = .ok (.iadd, 1) := dg_57.2.2.1
theorem dL_law_842 : decode cL_law 842 = .ok (.iaload, 1) := dg_57.2.2.2.1
theorem dL_law_843 : decode cL_law 843 = .ok (.aload_n 0, 1) := dg_57.2.2.2.2.1
theorem dL_law_844 : decode cL_law 844 = .ok (.iload 5, 2) := dg_57.2.2.2.2.2.1
theorem dL_law_846 : decode cL_law 846 = .ok (.iconst 2, 1) := dg_57.2.2.2.2.2.2.1
theorem dL_law_847 : decode cL_law 847 = .ok (.iadd, 1) := dg_57.2.2.2.2.2.2.2
theorem dg_58 : (decode cL_law 848 = .ok (.iaload, 1)) ∧ (decode cL_law 849 = .ok (.aload_n 3, 1)) ∧ (decode cL_law 850 = .ok (.invokestatic 202, 3)) ∧ (decode cL_law 853 = .ok (.istore 6, 2)) ∧ (decode cL_law 855 = .ok (.aload_n 2, 1)) ∧ (decode cL_law 856 = .ok (.aload_n 0, 1)) ∧ (decode cL_law 857 = .ok (.iload 5, 2)) ∧ (decode cL_law 859 = .ok (.iconst 1, 1)) := by decide +kernel
theorem dL_law_848 : decode cL_law 848 = .ok (.iaload, 1) := dg_58.1
theorem dL_law_849 : decode cL_law 849 = .ok (.aload_n 3, 1) := dg_58.2.1
theorem dL_law_850 : decode cL_law 850 = .ok (.invokestatic 202, 3) := dg_58.2.2.1
theorem dL_law_853 : decode cL_law 853 = .ok (.istore 6, 2) := dg_58.2.2.2.1
theorem dL_law_855 : decode cL_law 855 = .ok (.aload_n 2, 1) := dg_58.2.2.2.2.1
theorem dL_law_856 : decode cL_law 856 = .ok (.aload_n 0, 1) := dg_58.2.2.2.2.2.1
theorem dL_law_857 : decode cL_law 857 = .ok (.iload 5, 2) := dg_58.2.2.2.2.2.2.1
theorem dL_law_859 : decode cL_law 859 = .ok (.iconst 1, 1) := dg_58.2.2.2.2.2.2.2
theorem dg_59 : (decode cL_law 860 = .ok (.iadd, 1)) ∧ (decode cL_law 861 = .ok (.iaload, 1)) ∧ (decode cL_law 862 = .ok (.aload_n 0, 1)) ∧ (decode cL_law 863 = .ok (.iload 5, 2)) ∧ (decode cL_law 865 = .ok (.iconst 2, 1)) ∧ (decode cL_law 866 = .ok (.iadd, 1)) ∧ (decode cL_law 867 = .ok (.iaload, 1)) ∧ (decode cL_law 868 = .ok (.invokevirtual 204, 3)) := by decide +kernel
theorem dL_law_860 : decode cL_law 860 = .ok (.iadd, 1) := dg_59.1
theorem dL_law_861 : decode cL_law 861 = .ok (.iaload, 1) := dg_59.2.1
theorem dL_law_862 : decode cL_law 862 = .ok (.aload_n 0, 1) := dg_59.2.2.1
theorem dL_law_863 : decode cL_law 863 = .ok (.iload 5, 2) := dg_59.2.2.2.1
theorem dL_law_865 : decode cL_law 865 = .ok (.iconst 2, 1) := dg_59.2.2.2.2.1
theorem dL_law_866 : decode cL_law 866 = .ok (.iadd, 1) := dg_59.2.2.2.2.2.1
theorem dL_law_867 : decode cL_law 867 = .ok (.iaload, 1) := dg_59.2.2.2.2.2.2.1
theorem dL_law_868 : decode cL_law 868 = .ok (.invokevirtual 204, 3) := dg_59.2.2.2.2.2.2.2
theorem dg_60 : (decode cL_law 871 = .ok (.istore 7, 2)) ∧ (decode cL_law 873 = .ok (.goto 421, 3)) ∧ (decode cL_law 876 = .ok (.aload_n 1, 1)) ∧ (decode cL_law 877 = .ok (.aload_n 0, 1)) ∧ (decode cL_law 878 = .ok (.iload 5, 2)) ∧ (decode cL_law 880 = .ok (.iconst 1, 1)) ∧ (decode cL_law 881 = .ok (.iadd, 1)) ∧ (decode cL_law 882 = .ok (.iaload, 1)) := by decide +kernel
theorem dL_law_871 : decode cL_law 871 = .ok (.istore 7, 2) := dg_60.1
theorem dL_law_873 : decode cL_law 873 = .ok (.goto 421, 3) := dg_60.2.1
theorem dL_law_876 : decode cL_law 876 = .ok (.aload_n 1, 1) := dg_60.2.2.1
theorem dL_law_877 : decode cL_law 877 = .ok (.aload_n 0, 1) := dg_60.2.2.2.1
theorem dL_law_878 : decode cL_law 878 = .ok (.iload 5, 2) := dg_60.2.2.2.2.1
theorem dL_law_880 : decode cL_law 880 = .ok (.iconst 1, 1) := dg_60.2.2.2.2.2.1
theorem dL_law_881 : decode cL_law 881 = .ok (.iadd, 1) := dg_60.2.2.2.2.2.2.1
theorem dL_law_882 : decode cL_law 882 = .ok (.iaload, 1) := dg_60.2.2.2.2.2.2.2
theorem dg_61 : (decode cL_law 883 = .ok (.aload_n 3, 1)) ∧ (decode cL_law 884 = .ok (.invokestatic 205, 3)) ∧ (decode cL_law 887 = .ok (.istore 6, 2)) ∧ (decode cL_law 889 = .ok (.aload_n 2, 1)) ∧ (decode cL_law 890 = .ok (.aload_n 0, 1)) ∧ (decode cL_law 891 = .ok (.iload 5, 2)) ∧ (decode cL_law 893 = .ok (.iconst 1, 1)) ∧ (decode cL_law 894 = .ok (.iadd, 1)) := by decide +kernel
theorem dL_law_883 : decode cL_law 883 = .ok (.aload_n 3, 1) := dg_61.1
theorem dL_law_884 : decode cL_law 884 = .ok (.invokestatic 205, 3) := dg_61.2.1
theorem dL_law_887 : decode cL_law 887 = .ok (.istore 6, 2) := dg_61.2.2.1
theorem dL_law_889 : decode cL_law 889 = .ok (.aload_n 2, 1) := dg_61.2.2.2.1
theorem dL_law_890 : decode cL_law 890 = .ok (.aload_n 0, 1) := dg_61.2.2.2.2.1
theorem dL_law_891 : decode cL_law 891 = .ok (.iload 5, 2) := dg_61.2.2.2.2.2.1
theorem dL_law_893 : decode cL_law 893 = .ok (.iconst 1, 1) := dg_61.2.2.2.2.2.2.1
theorem dL_law_894 : decode cL_law 894 = .ok (.iadd, 1) := dg_61.2.2.2.2.2.2.2
theorem dg_62 : (decode cL_law 895 = .ok (.iaload, 1)) ∧ (decode cL_law 896 = .ok (.invokevirtual 207, 3)) ∧ (decode cL_law 899 = .ok (.istore 7, 2)) ∧ (decode cL_law 901 = .ok (.goto 393, 3)) ∧ (decode cL_law 904 = .ok (.aload_n 1, 1)) ∧ (decode cL_law 905 = .ok (.aload_n 0, 1)) ∧ (decode cL_law 906 = .ok (.iload 5, 2)) ∧ (decode cL_law 908 = .ok (.iconst 1, 1)) := by decide +kernel
theorem dL_law_895 : decode cL_law 895 = .ok (.iaload, 1) := dg_62.1
theorem dL_law_896 : decode cL_law 896 = .ok (.invokevirtual 207, 3) := dg_62.2.1
theorem dL_law_899 : decode cL_law 899 = .ok (.istore 7, 2) := dg_62.2.2.1
theorem dL_law_901 : decode cL_law 901 = .ok (.goto 393, 3) := dg_62.2.2.2.1
theorem dL_law_904 : decode cL_law 904 = .ok (.aload_n 1, 1) := dg_62.2.2.2.2.1
theorem dL_law_905 : decode cL_law 905 = .ok (.aload_n 0, 1) := dg_62.2.2.2.2.2.1
theorem dL_law_906 : decode cL_law 906 = .ok (.iload 5, 2) := dg_62.2.2.2.2.2.2.1
theorem dL_law_908 : decode cL_law 908 = .ok (.iconst 1, 1) := dg_62.2.2.2.2.2.2.2
theorem dg_63 : (decode cL_law 909 = .ok (.iadd, 1)) ∧ (decode cL_law 910 = .ok (.iaload, 1)) ∧ (decode cL_law 911 = .ok (.aload_n 3, 1)) ∧ (decode cL_law 912 = .ok (.invokestatic 208, 3)) ∧ (decode cL_law 915 = .ok (.istore 6, 2)) ∧ (decode cL_law 917 = .ok (.aload_n 2, 1)) ∧ (decode cL_law 918 = .ok (.aload_n 0, 1)) ∧ (decode cL_law 919 = .ok (.iload 5, 2)) := by decide +kernel
theorem dL_law_909 : decode cL_law 909 = .ok (.iadd, 1) := dg_63.1
theorem dL_law_910 : decode cL_law 910 = .ok (.iaload, 1) := dg_63.2.1
theorem dL_law_911 : decode cL_law 911 = .ok (.aload_n 3, 1) := dg_63.2.2.1
theorem dL_law_912 : decode cL_law 912 = .ok (.invokestatic 208, 3) := dg_63.2.2.2.1
theorem dL_law_915 : decode cL_law 915 = .ok (.istore 6, 2) := dg_63.2.2.2.2.1
theorem dL_law_917 : decode cL_law 917 = .ok (.aload_n 2, 1) := dg_63.2.2.2.2.2.1
theorem dL_law_918 : decode cL_law 918 = .ok (.aload_n 0, 1) := dg_63.2.2.2.2.2.2.1
theorem dL_law_919 : decode cL_law 919 = .ok (.iload 5, 2) := dg_63.2.2.2.2.2.2.2
theorem dg_64 : (decode cL_law 921 = .ok (.iconst 1, 1)) ∧ (decode cL_law 922 = .ok (.iadd, 1)) ∧ (decode cL_law 923 = .ok (.iaload, 1)) ∧ (decode cL_law 924 = .ok (.invokevirtual 210, 3)) ∧ (decode cL_law 927 = .ok (.istore 7, 2)) ∧ (decode cL_law 929 = .ok (.goto 365, 3)) ∧ (decode cL_law 932 = .ok (.aload_n 1, 1)) ∧ (decode cL_law 933 = .ok (.aload_n 0, 1)) := by decide +kernel
theorem dL_law_921 : decode cL_law 921 = .ok (.iconst 1, 1) := dg_64.1
theorem dL_law_922 : decode cL_law 922 = .ok (.iadd, 1) := dg_64.2.1
theorem dL_law_923 : decode cL_law 923 = .ok (.iaload, 1) := dg_64.2.2.1
theorem dL_law_924 : decode cL_law 924 = .ok (.invokevirtual 210, 3) := dg_64.2.2.2.1
theorem dL_law_927 : decode cL_law 927 = .ok (.istore 7, 2) := dg_64.2.2.2.2.1
theorem dL_law_929 : decode cL_law 929 = .ok (.goto 365, 3) := dg_64.2.2.2.2.2.1
theorem dL_law_932 : decode cL_law 932 = .ok (.aload_n 1, 1) := dg_64.2.2.2.2.2.2.1
theorem dL_law_933 : decode cL_law 933 = .ok (.aload_n 0, 1) := dg_64.2.2.2.2.2.2.2
theorem dg_65 : (decode cL_law 934 = .ok (.iload 5, 2)) ∧ (decode cL_law 936 = .ok (.iconst 1, 1)) ∧ (decode cL_law 937 = .ok (.iadd, 1)) ∧ (decode cL_law 938 = .ok (.iaload, 1)) ∧ (decode cL_law 939 = .ok (.aload_n 3, 1)) ∧ (decode cL_law 940 = .ok (.invokestatic 211, 3)) ∧ (decode cL_law 943 = .ok (.istore 6, 2)) ∧ (decode cL_law 945 = .ok (.aload_n 2, 1)) := by decide +kernel
theorem dL_law_934 : decode cL_law 934 = .ok (.iload 5, 2) := dg_65.1
theorem dL_law_936 : decode cL_law 936 = .ok (.iconst 1, 1) := dg_65.2.1
theorem dL_law_937 : decode cL_law 937 = .ok (.iadd, 1) := dg_65.2.2.1
theorem dL_law_938 : decode cL_law 938 = .ok (.iaload, 1) := dg_65.2.2.2.1
theorem dL_law_939 : decode cL_law 939 = .ok (.aload_n 3, 1) := dg_65.2.2.2.2.1
theorem dL_law_940 : decode cL_law 940 = .ok (.invokestatic 211, 3) := dg_65.2.2.2.2.2.1
theorem dL_law_943 : decode cL_law 943 = .ok (.istore 6, 2) := dg_65.2.2.2.2.2.2.1
theorem dL_law_945 : decode cL_law 945 = .ok (.aload_n 2, 1) := dg_65.2.2.2.2.2.2.2
theorem dg_66 : (decode cL_law 946 = .ok (.aload_n 0, 1)) ∧ (decode cL_law 947 = .ok (.iload 5, 2)) ∧ (decode cL_law 949 = .ok (.iconst 1, 1)) ∧ (decode cL_law 950 = .ok (.iadd, 1)) ∧ (decode cL_law 951 = .ok (.iaload, 1)) ∧ (decode cL_law 952 = .ok (.invokevirtual 213, 3)) ∧ (decode cL_law 955 = .ok (.istore 7, 2)) ∧ (decode cL_law 957 = .ok (.goto 337, 3)) := by decide +kernel
theorem dL_law_946 : decode cL_law 946 = .ok (.aload_n 0, 1) := dg_66.1
theorem dL_law_947 : decode cL_law 947 = .ok (.iload 5, 2) := dg_66.2.1
theorem dL_law_949 : decode cL_law 949 = .ok (.iconst 1, 1) := dg_66.2.2.1
theorem dL_law_950 : decode cL_law 950 = .ok (.iadd, 1) := dg_66.2.2.2.1
theorem dL_law_951 : decode cL_law 951 = .ok (.iaload, 1) := dg_66.2.2.2.2.1
theorem dL_law_952 : decode cL_law 952 = .ok (.invokevirtual 213, 3) := dg_66.2.2.2.2.2.1
theorem dL_law_955 : decode cL_law 955 = .ok (.istore 7, 2) := dg_66.2.2.2.2.2.2.1
theorem dL_law_957 : decode cL_law 957 = .ok (.goto 337, 3) := dg_66.2.2.2.2.2.2.2
theorem dg_67 : (decode cL_law 960 = .ok (.aload_n 1, 1)) ∧ (decode cL_law 961 = .ok (.aload_n 0, 1)) ∧ (decode cL_law 962 = .ok (.iload 5, 2)) ∧ (decode cL_law 964 = .ok (.iconst 1, 1)) ∧ (decode cL_law 965 = .ok (.iadd, 1)) ∧ (decode cL_law 966 = .ok (.iaload, 1)) ∧ (decode cL_law 967 = .ok (.aload_n 3, 1)) ∧ (decode cL_law 968 = .ok (.invokestatic 214, 3)) := by decide +kernel
theorem dL_law_960 : decode cL_law 960 = .ok (.aload_n 1, 1) := dg_67.1
theorem dL_law_961 : decode cL_law 961 = .ok (.aload_n 0, 1) := dg_67.2.1
theorem dL_law_962 : decode cL_law 962 = .ok (.iload 5, 2) := dg_67.2.2.1
theorem dL_law_964 : decode cL_law 964 = .ok (.iconst 1, 1) := dg_67.2.2.2.1
theorem dL_law_965 : decode cL_law 965 = .ok (.iadd, 1) := dg_67.2.2.2.2.1
theorem dL_law_966 : decode cL_law 966 = .ok (.iaload, 1) := dg_67.2.2.2.2.2.1
theorem dL_law_967 : decode cL_law 967 = .ok (.aload_n 3, 1) := dg_67.2.2.2.2.2.2.1
theorem dL_law_968 : decode cL_law 968 = .ok (.invokestatic 214, 3) := dg_67.2.2.2.2.2.2.2
theorem dg_68 : (decode cL_law 971 = .ok (.istore 6, 2)) ∧ (decode cL_law 973 = .ok (.aload_n 2, 1)) ∧ (decode cL_law 974 = .ok (.aload_n 0, 1)) ∧ (decode cL_law 975 = .ok (.iload 5, 2)) ∧ (decode cL_law 977 = .ok (.iconst 1, 1)) ∧ (decode cL_law 978 = .ok (.iadd, 1)) ∧ (decode cL_law 979 = .ok (.iaload, 1)) ∧ (decode cL_law 980 = .ok (.invokevirtual 216, 3)) := by decide +kernel
theorem dL_law_971 : decode cL_law 971 = .ok (.istore 6, 2) := dg_68.1
theorem dL_law_973 : decode cL_law 973 = .ok (.aload_n 2, 1) := dg_68.2.1
theorem dL_law_974 : decode cL_law 974 = .ok (.aload_n 0, 1) := dg_68.2.2.1
theorem dL_law_975 : decode cL_law 975 = .ok (.iload 5, 2) := dg_68.2.2.2.1
theorem dL_law_977 : decode cL_law 977 = .ok (.iconst 1, 1) := dg_68.2.2.2.2.1
theorem dL_law_978 : decode cL_law 978 = .ok (.iadd, 1) := dg_68.2.2.2.2.2.1
theorem dL_law_979 : decode cL_law 979 = .ok (.iaload, 1) := dg_68.2.2.2.2.2.2.1
theorem dL_law_980 : decode cL_law 980 = .ok (.invokevirtual 216, 3) := dg_68.2.2.2.2.2.2.2
theorem dg_69 : (decode cL_law 983 = .ok (.istore 7, 2)) ∧ (decode cL_law 985 = .ok (.goto 309, 3)) ∧ (decode cL_law 988 = .ok (.aload_n 1, 1)) ∧ (decode cL_law 989 = .ok (.aload_n 0, 1)) ∧ (decode cL_law 990 = .ok (.iload 5, 2)) ∧ (decode cL_law 992 = .ok (.iconst 1, 1)) ∧ (decode cL_law 993 = .ok (.iadd, 1)) ∧ (decode cL_law 994 = .ok (.iaload, 1)) := by decide +kernel
theorem dL_law_983 : decode cL_law 983 = .ok (.istore 7, 2) := dg_69.1
theorem dL_law_985 : decode cL_law 985 = .ok (.goto 309, 3) := dg_69.2.1
theorem dL_law_988 : decode cL_law 988 = .ok (.aload_n 1, 1) := dg_69.2.2.1
theorem dL_law_989 : decode cL_law 989 = .ok (.aload_n 0, 1) := dg_69.2.2.2.1
theorem dL_law_990 : decode cL_law 990 = .ok (.iload 5, 2) := dg_69.2.2.2.2.1
theorem dL_law_992 : decode cL_law 992 = .ok (.iconst 1, 1) := dg_69.2.2.2.2.2.1
theorem dL_law_993 : decode cL_law 993 = .ok (.iadd, 1) := dg_69.2.2.2.2.2.2.1
theorem dL_law_994 : decode cL_law 994 = .ok (.iaload, 1) := dg_69.2.2.2.2.2.2.2
theorem dg_70 : (decode cL_law 995 = .ok (.aload_n 3, 1)) ∧ (decode cL_law 996 = .ok (.invokestatic 217, 3)) ∧ (decode cL_law 999 = .ok (.istore 6, 2)) ∧ (decode cL_law 1001 = .ok (.aload_n 2, 1)) ∧ (decode cL_law 1002 = .ok (.aload_n 0, 1)) ∧ (decode cL_law 1003 = .ok (.iload 5, 2)) ∧ (decode cL_law 1005 = .ok (.iconst 1, 1)) ∧ (decode cL_law 1006 = .ok (.iadd, 1)) := by decide +kernel
theorem dL_law_995 : decode cL_law 995 = .ok (.aload_n 3, 1) := dg_70.1
theorem dL_law_996 : decode cL_law 996 = .ok (.invokestatic 217, 3) := dg_70.2.1
theorem dL_law_999 : decode cL_law 999 = .ok (.istore 6, 2) := dg_70.2.2.1
theorem dL_law_1001 : decode cL_law 1001 = .ok (.aload_n 2, 1) := dg_70.2.2.2.1
theorem dL_law_1002 : decode cL_law 1002 = .ok (.aload_n 0, 1) := dg_70.2.2.2.2.1
theorem dL_law_1003 : decode cL_law 1003 = .ok (.iload 5, 2) := dg_70.2.2.2.2.2.1
theorem dL_law_1005 : decode cL_law 1005 = .ok (.iconst 1, 1) := dg_70.2.2.2.2.2.2.1
theorem dL_law_1006 : decode cL_law 1006 = .ok (.iadd, 1) := dg_70.2.2.2.2.2.2.2
theorem dg_71 : (decode cL_law 1007 = .ok (.iaload, 1)) ∧ (decode cL_law 1008 = .ok (.invokevirtual 219, 3)) ∧ (decode cL_law 1011 = .ok (.istore 7, 2)) ∧ (decode cL_law 1013 = .ok (.goto 281, 3)) ∧ (decode cL_law 1016 = .ok (.aload_n 1, 1)) ∧ (decode cL_law 1017 = .ok (.aload_n 0, 1)) ∧ (decode cL_law 1018 = .ok (.iload 5, 2)) ∧ (decode cL_law 1020 = .ok (.iconst 1, 1)) := by decide +kernel
theorem dL_law_1007 : decode cL_law 1007 = .ok (.iaload, 1) := dg_71.1
theorem dL_law_1008 : decode cL_law 1008 = .ok (.invokevirtual 219, 3) := dg_71.2.1
theorem dL_law_1011 : decode cL_law 1011 = .ok (.istore 7, 2) := dg_71.2.2.1
theorem dL_law_1013 : decode cL_law 1013 = .ok (.goto 281, 3) := dg_71.2.2.2.1
theorem dL_law_1016 : decode cL_law 1016 = .ok (.aload_n 1, 1) := dg_71.2.2.2.2.1
theorem dL_law_1017 : decode cL_law 1017 = .ok (.aload_n 0, 1) := dg_71.2.2.2.2.2.1
theorem dL_law_1018 : decode cL_law 1018 = .ok (.iload 5, 2) := dg_71.2.2.2.2.2.2.1
theorem dL_law_1020 : decode cL_law 1020 = .ok (.iconst 1, 1) := dg_71.2.2.2.2.2.2.2
theorem dg_72 : (decode cL_law 1021 = .ok (.iadd, 1)) ∧ (decode cL_law 1022 = .ok (.iaload, 1)) ∧ (decode cL_law 1023 = .ok (.i2c, 1)) ∧ (decode cL_law 1024 = .ok (.aload_n 3, 1)) ∧ (decode cL_law 1025 = .ok (.invokestatic 220, 3)) ∧ (decode cL_law 1028 = .ok (.istore 6, 2)) ∧ (decode cL_law 1030 = .ok (.aload_n 2, 1)) ∧ (decode cL_law 1031 = .ok (.aload_n 0, 1)) := by decide +kernel
theorem dL_law_1021 : decode cL_law 1021 = .ok (.iadd, 1) := dg_72.1
theorem dL_law_1022 : decode cL_law 1022 = .ok (.iaload, 1) := dg_72.2.1
theorem dL_law_1023 : decode cL_law 1023 = .ok (.i2c, 1) := dg_72.2.2.1
theorem dL_law_1024 : decode cL_law 1024 = .ok (.aload_n 3, 1) := dg_72.2.2.2.1
theorem dL_law_1025 : decode cL_law 1025 = .ok (.invokestatic 220, 3) := dg_72.2.2.2.2.1
theorem dL_law_1028 : decode cL_law 1028 = .ok (.istore 6, 2) := dg_72.2.2.2.2.2.1
theorem dL_law_1030 : decode cL_law 1030 = .ok (.aload_n 2, 1) := dg_72.2.2.2.2.2.2.1
theorem dL_law_1031 : decode cL_law 1031 = .ok (.aload_n 0, 1) := dg_72.2.2.2.2.2.2.2
theorem dg_73 : (decode cL_law 1032 = .ok (.iload 5, 2)) ∧ (decode cL_law 1034 = .ok (.iconst 1, 1)) ∧ (decode cL_law 1035 = .ok (.iadd, 1)) ∧ (decode cL_law 1036 = .ok (.iaload, 1)) ∧ (decode cL_law 1037 = .ok (.i2c, 1)) ∧ (decode cL_law 1038 = .ok (.invokevirtual 223, 3)) ∧ (decode cL_law 1041 = .ok (.istore 7, 2)) ∧ (decode cL_law 1043 = .ok (.goto 251, 3)) := by decide +kernel
theorem dL_law_1032 : decode cL_law 1032 = .ok (.iload 5, 2) := dg_73.1
theorem dL_law_1034 : decode cL_law 1034 = .ok (.iconst 1, 1) := dg_73.2.1
theorem dL_law_1035 : decode cL_law 1035 = .ok (.iadd, 1) := dg_73.2.2.1
theorem dL_law_1036 : decode cL_law 1036 = .ok (.iaload, 1) := dg_73.2.2.2.1
theorem dL_law_1037 : decode cL_law 1037 = .ok (.i2c, 1) := dg_73.2.2.2.2.1
theorem dL_law_1038 : decode cL_law 1038 = .ok (.invokevirtual 223, 3) := dg_73.2.2.2.2.2.1
theorem dL_law_1041 : decode cL_law 1041 = .ok (.istore 7, 2) := dg_73.2.2.2.2.2.2.1
theorem dL_law_1043 : decode cL_law 1043 = .ok (.goto 251, 3) := dg_73.2.2.2.2.2.2.2
theorem dg_74 : (decode cL_law 1046 = .ok (.aload_n 1, 1)) ∧ (decode cL_law 1047 = .ok (.aload_n 3, 1)) ∧ (decode cL_law 1048 = .ok (.invokestatic 224, 3)) ∧ (decode cL_law 1051 = .ok (.istore 6, 2)) ∧ (decode cL_law 1053 = .ok (.aload_n 2, 1)) ∧ (decode cL_law 1054 = .ok (.invokevirtual 226, 3)) ∧ (decode cL_law 1057 = .ok (.istore 7, 2)) ∧ (decode cL_law 1059 = .ok (.goto 235, 3)) := by decide +kernel
theorem dL_law_1046 : decode cL_law 1046 = .ok (.aload_n 1, 1) := dg_74.1
theorem dL_law_1047 : decode cL_law 1047 = .ok (.aload_n 3, 1) := dg_74.2.1
theorem dL_law_1048 : decode cL_law 1048 = .ok (.invokestatic 224, 3) := dg_74.2.2.1
theorem dL_law_1051 : decode cL_law 1051 = .ok (.istore 6, 2) := dg_74.2.2.2.1
theorem dL_law_1053 : decode cL_law 1053 = .ok (.aload_n 2, 1) := dg_74.2.2.2.2.1
theorem dL_law_1054 : decode cL_law 1054 = .ok (.invokevirtual 226, 3) := dg_74.2.2.2.2.2.1
theorem dL_law_1057 : decode cL_law 1057 = .ok (.istore 7, 2) := dg_74.2.2.2.2.2.2.1
theorem dL_law_1059 : decode cL_law 1059 = .ok (.goto 235, 3) := dg_74.2.2.2.2.2.2.2
theorem dg_75 : (decode cL_law 1062 = .ok (.aload_n 1, 1)) ∧ (decode cL_law 1063 = .ok (.invokevirtual 227, 3)) ∧ (decode cL_law 1066 = .ok (.pop, 1)) ∧ (decode cL_law 1067 = .ok (.aload_n 2, 1)) ∧ (decode cL_law 1068 = .ok (.invokevirtual 230, 3)) ∧ (decode cL_law 1071 = .ok (.pop, 1)) ∧ (decode cL_law 1072 = .ok (.goto 222, 3)) ∧ (decode cL_law 1075 = .ok (.aload_n 1, 1)) := by decide +kernel
theorem dL_law_1062 : decode cL_law 1062 = .ok (.aload_n 1, 1) := dg_75.1
theorem dL_law_1063 : decode cL_law 1063 = .ok (.invokevirtual 227, 3) := dg_75.2.1
theorem dL_law_1066 : decode cL_law 1066 = .ok (.pop, 1) := dg_75.2.2.1
theorem dL_law_1067 : decode cL_law 1067 = .ok (.aload_n 2, 1) := dg_75.2.2.2.1
theorem dL_law_1068 : decode cL_law 1068 = .ok (.invokevirtual 230, 3) := dg_75.2.2.2.2.1
theorem dL_law_1071 : decode cL_law 1071 = .ok (.pop, 1) := dg_75.2.2.2.2.2.1
theorem dL_law_1072 : decode cL_law 1072 = .ok (.goto 222, 3) := dg_75.2.2.2.2.2.2.1
theorem dL_law_1075 : decode cL_law 1075 = .ok (.aload_n 1, 1) := dg_75.2.2.2.2.2.2.2
theorem dg_76 : (decode cL_law 1076 = .ok (.aload_n 0, 1)) ∧ (decode cL_law 1077 = .ok (.iload 5, 2)) ∧ (decode cL_law 1079 = .ok (.iconst 1, 1)) ∧ (decode cL_law 1080 = .ok (.iadd, 1)) ∧ (decode cL_law 1081 = .ok (.iaload, 1)) ∧ (decode cL_law 1082 = .ok (.aload_n 3, 1)) ∧ (decode cL_law 1083 = .ok (.invokestatic 231, 3)) ∧ (decode cL_law 1086 = .ok (.istore 6, 2)) := by decide +kernel
theorem dL_law_1076 : decode cL_law 1076 = .ok (.aload_n 0, 1) := dg_76.1
theorem dL_law_1077 : decode cL_law 1077 = .ok (.iload 5, 2) := dg_76.2.1
theorem dL_law_1079 : decode cL_law 1079 = .ok (.iconst 1, 1) := dg_76.2.2.1
theorem dL_law_1080 : decode cL_law 1080 = .ok (.iadd, 1) := dg_76.2.2.2.1
theorem dL_law_1081 : decode cL_law 1081 = .ok (.iaload, 1) := dg_76.2.2.2.2.1
theorem dL_law_1082 : decode cL_law 1082 = .ok (.aload_n 3, 1) := dg_76.2.2.2.2.2.1
theorem dL_law_1083 : decode cL_law 1083 = .ok (.invokestatic 231, 3) := dg_76.2.2.2.2.2.2.1
theorem dL_law_1086 : decode cL_law 1086 = .ok (.istore 6, 2) := dg_76.2.2.2.2.2.2.2
theorem dg_77 : (decode cL_law 1088 = .ok (.aload_n 2, 1)) ∧ (decode cL_law 1089 = .ok (.aload_n 0, 1)) ∧ (decode cL_law 1090 = .ok (.iload 5, 2)) ∧ (decode cL_law 1092 = .ok (.iconst 1, 1)) ∧ (decode cL_law 1093 = .ok (.iadd, 1)) ∧ (decode cL_law 1094 = .ok (.iaload, 1)) ∧ (decode cL_law 1095 = .ok (.invokevirtual 233, 3)) ∧ (decode cL_law 1098 = .ok (.istore 7, 2)) := by decide +kernel
theorem dL_law_1088 : decode cL_law 1088 = .ok (.aload_n 2, 1) := dg_77.1
theorem dL_law_1089 : decode cL_law 1089 = .ok (.aload_n 0, 1) := dg_77.2.1
theorem dL_law_1090 : decode cL_law 1090 = .ok (.iload 5, 2) := dg_77.2.2.1
theorem dL_law_1092 : decode cL_law 1092 = .ok (.iconst 1, 1) := dg_77.2.2.2.1
theorem dL_law_1093 : decode cL_law 1093 = .ok (.iadd, 1) := dg_77.2.2.2.2.1
theorem dL_law_1094 : decode cL_law 1094 = .ok (.iaload, 1) := dg_77.2.2.2.2.2.1
theorem dL_law_1095 : decode cL_law 1095 = .ok (.invokevirtual 233, 3) := dg_77.2.2.2.2.2.2.1
theorem dL_law_1098 : decode cL_law 1098 = .ok (.istore 7, 2) := dg_77.2.2.2.2.2.2.2
theorem dg_78 : (decode cL_law 1100 = .ok (.goto 194, 3)) ∧ (decode cL_law 1103 = .ok (.aload_n 1, 1)) ∧ (decode cL_law 1104 = .ok (.aload_n 0, 1)) ∧ (decode cL_law 1105 = .ok (.iload 5, 2)) ∧ (decode cL_law 1107 = .ok (.iconst 1, 1)) ∧ (decode cL_law 1108 = .ok (.iadd, 1)) ∧ (decode cL_law 1109 = .ok (.iaload, 1)) ∧ (decode cL_law 1110 = .ok (.aload_n 3, 1)) := by decide +kernel
theorem dL_law_1100 : decode cL_law 1100 = .ok (.goto 194, 3) := dg_78.1
theorem dL_law_1103 : decode cL_law 1103 = .ok (.aload_n 1, 1) := dg_78.2.1
theorem dL_law_1104 : decode cL_law 1104 = .ok (.aload_n 0, 1) := dg_78.2.2.1
theorem dL_law_1105 : decode cL_law 1105 = .ok (.iload 5, 2) := dg_78.2.2.2.1
theorem dL_law_1107 : decode cL_law 1107 = .ok (.iconst 1, 1) := dg_78.2.2.2.2.1
theorem dL_law_1108 : decode cL_law 1108 = .ok (.iadd, 1) := dg_78.2.2.2.2.2.1
theorem dL_law_1109 : decode cL_law 1109 = .ok (.iaload, 1) := dg_78.2.2.2.2.2.2.1
theorem dL_law_1110 : decode cL_law 1110 = .ok (.aload_n 3, 1) := dg_78.2.2.2.2.2.2.2
theorem dg_79 : (decode cL_law 1111 = .ok (.invokestatic 234, 3)) ∧ (decode cL_law 1114 = .ok (.istore 6, 2)) ∧ (decode cL_law 1116 = .ok (.aload_n 2, 1)) ∧ (decode cL_law 1117 = .ok (.aload_n 0, 1)) ∧ (decode cL_law 1118 = .ok (.iload 5, 2)) ∧ (decode cL_law 1120 = .ok (.iconst 1, 1)) ∧ (decode cL_law 1121 = .ok (.iadd, 1)) ∧ (decode cL_law 1122 = .ok (.iaload, 1)) := by decide +kernel
theorem dL_law_1111 : decode cL_law 1111 = .ok (.invokestatic 234, 3) := dg_79.1
theorem dL_law_1114 : decode cL_law 1114 = .ok (.istore 6, 2) := dg_79.2.1
theorem dL_law_1116 : decode cL_law 1116 = .ok (.aload_n 2, 1) := dg_79.2.2.1
theorem dL_law_1117 : decode cL_law 1117 = .ok (.aload_n 0, 1) := dg_79.2.2.2.1
theorem dL_law_1118 : decode cL_law 1118 = .ok (.iload 5, 2) := dg_79.2.2.2.2.1
theorem dL_law_1120 : decode cL_law 1120 = .ok (.iconst 1, 1) := dg_79.2.2.2.2.2.1
theorem dL_law_1121 : decode cL_law 1121 = .ok (.iadd, 1) := dg_79.2.2.2.2.2.2.1
theorem dL_law_1122 : decode cL_law 1122 = .ok (.iaload, 1) := dg_79.2.2.2.2.2.2.2
theorem dg_80 : (decode cL_law 1123 = .ok (.invokevirtual 236, 3)) ∧ (decode cL_law 1126 = .ok (.istore 7, 2)) ∧ (decode cL_law 1128 = .ok (.goto 166, 3)) ∧ (decode cL_law 1131 = .ok (.aload_n 1, 1)) ∧ (decode cL_law 1132 = .ok (.aload_n 0, 1)) ∧ (decode cL_law 1133 = .ok (.iload 5, 2)) ∧ (decode cL_law 1135 = .ok (.iconst 1, 1)) ∧ (decode cL_law 1136 = .ok (.iadd, 1)) := by decide +kernel
theorem dL_law_1123 : decode cL_law 1123 = .ok (.invokevirtual 236, 3) := dg_80.1
theorem dL_law_1126 : decode cL_law 1126 = .ok (.istore 7, 2) := dg_80.2.1
theorem dL_law_1128 : decode cL_law 1128 = .ok (.goto 166, 3) := dg_80.2.2.1
theorem dL_law_1131 : decode cL_law 1131 = .ok (.aload_n 1, 1) := dg_80.2.2.2.1
theorem dL_law_1132 : decode cL_law 1132 = .ok (.aload_n 0, 1) := dg_80.2.2.2.2.1
theorem dL_law_1133 : decode cL_law 1133 = .ok (.iload 5, 2) := dg_80.2.2.2.2.2.1
theorem dL_law_1135 : decode cL_law 1135 = .ok (.iconst 1, 1) := dg_80.2.2.2.2.2.2.1
theorem dL_law_1136 : decode cL_law 1136 = .ok (.iadd, 1) := dg_80.2.2.2.2.2.2.2
theorem dg_81 : (decode cL_law 1137 = .ok (.iaload, 1)) ∧ (decode cL_law 1138 = .ok (.aload_n 3, 1)) ∧ (decode cL_law 1139 = .ok (.invokestatic 237, 3)) ∧ (decode cL_law 1142 = .ok (.istore 6, 2)) ∧ (decode cL_law 1144 = .ok (.aload_n 2, 1)) ∧ (decode cL_law 1145 = .ok (.aload_n 0, 1)) ∧ (decode cL_law 1146 = .ok (.iload 5, 2)) ∧ (decode cL_law 1148 = .ok (.iconst 1, 1)) := by decide +kernel
theorem dL_law_1137 : decode cL_law 1137 = .ok (.iaload, 1) := dg_81.1
theorem dL_law_1138 : decode cL_law 1138 = .ok (.aload_n 3, 1) := dg_81.2.1
theorem dL_law_1139 : decode cL_law 1139 = .ok (.invokestatic 237, 3) := dg_81.2.2.1
theorem dL_law_1142 : decode cL_law 1142 = .ok (.istore 6, 2) := dg_81.2.2.2.1
theorem dL_law_1144 : decode cL_law 1144 = .ok (.aload_n 2, 1) := dg_81.2.2.2.2.1
theorem dL_law_1145 : decode cL_law 1145 = .ok (.aload_n 0, 1) := dg_81.2.2.2.2.2.1
theorem dL_law_1146 : decode cL_law 1146 = .ok (.iload 5, 2) := dg_81.2.2.2.2.2.2.1
theorem dL_law_1148 : decode cL_law 1148 = .ok (.iconst 1, 1) := dg_81.2.2.2.2.2.2.2
theorem dg_82 : (decode cL_law 1149 = .ok (.iadd, 1)) ∧ (decode cL_law 1150 = .ok (.iaload, 1)) ∧ (decode cL_law 1151 = .ok (.invokevirtual 239, 3)) ∧ (decode cL_law 1154 = .ok (.istore 7, 2)) ∧ (decode cL_law 1156 = .ok (.goto 138, 3)) ∧ (decode cL_law 1159 = .ok (.aload_n 1, 1)) ∧ (decode cL_law 1160 = .ok (.aload 4, 2)) ∧ (decode cL_law 1162 = .ok (.invokestatic 240, 3)) := by decide +kernel
theorem dL_law_1149 : decode cL_law 1149 = .ok (.iadd, 1) := dg_82.1
theorem dL_law_1150 : decode cL_law 1150 = .ok (.iaload, 1) := dg_82.2.1
theorem dL_law_1151 : decode cL_law 1151 = .ok (.invokevirtual 239, 3) := dg_82.2.2.1
theorem dL_law_1154 : decode cL_law 1154 = .ok (.istore 7, 2) := dg_82.2.2.2.1
theorem dL_law_1156 : decode cL_law 1156 = .ok (.goto 138, 3) := dg_82.2.2.2.2.1
theorem dL_law_1159 : decode cL_law 1159 = .ok (.aload_n 1, 1) := dg_82.2.2.2.2.2.1
theorem dL_law_1160 : decode cL_law 1160 = .ok (.aload 4, 2) := dg_82.2.2.2.2.2.2.1
theorem dL_law_1162 : decode cL_law 1162 = .ok (.invokestatic 240, 3) := dg_82.2.2.2.2.2.2.2
theorem dg_83 : (decode cL_law 1165 = .ok (.istore 6, 2)) ∧ (decode cL_law 1167 = .ok (.aload_n 2, 1)) ∧ (decode cL_law 1168 = .ok (.invokevirtual 243, 3)) ∧ (decode cL_law 1171 = .ok (.fstore 7, 2)) ∧ (decode cL_law 1173 = .ok (.goto 121, 3)) ∧ (decode cL_law 1176 = .ok (.aload_n 1, 1)) ∧ (decode cL_law 1177 = .ok (.aload 4, 2)) ∧ (decode cL_law 1179 = .ok (.invokestatic 244, 3)) := by decide +kernel
theorem dL_law_1165 : decode cL_law 1165 = .ok (.istore 6, 2) := dg_83.1
theorem dL_law_1167 : decode cL_law 1167 = .ok (.aload_n 2, 1) := dg_83.2.1
theorem dL_law_1168 : decode cL_law 1168 = .ok (.invokevirtual 243, 3) := dg_83.2.2.1
theorem dL_law_1171 : decode cL_law 1171 = .ok (.fstore 7, 2) := dg_83.2.2.2.1
theorem dL_law_1173 : decode cL_law 1173 = .ok (.goto 121, 3) := dg_83.2.2.2.2.1
theorem dL_law_1176 : decode cL_law 1176 = .ok (.aload_n 1, 1) := dg_83.2.2.2.2.2.1
theorem dL_law_1177 : decode cL_law 1177 = .ok (.aload 4, 2) := dg_83.2.2.2.2.2.2.1
theorem dL_law_1179 : decode cL_law 1179 = .ok (.invokestatic 244, 3) := dg_83.2.2.2.2.2.2.2
theorem dg_84 : (decode cL_law 1182 = .ok (.istore 6, 2)) ∧ (decode cL_law 1184 = .ok (.aload_n 2, 1)) ∧ (decode cL_law 1185 = .ok (.invokevirtual 246, 3)) ∧ (decode cL_law 1188 = .ok (.dstore 7, 2)) ∧ (decode cL_law 1190 = .ok (.goto 104, 3)) ∧ (decode cL_law 1193 = .ok (.aload_n 1, 1)) ∧ (decode cL_law 1194 = .ok (.aload_n 0, 1)) ∧ (decode cL_law 1195 = .ok (.iload 5, 2)) := by decide +kernel
theorem dL_law_1182 : decode cL_law 1182 = .ok (.istore 6, 2) := dg_84.1
theorem dL_law_1184 : decode cL_law 1184 = .ok (.aload_n 2, 1) := dg_84.2.1
theorem dL_law_1185 : decode cL_law 1185 = .ok (.invokevirtual 246, 3) := dg_84.2.2.1
theorem dL_law_1188 : decode cL_law 1188 = .ok (.dstore 7, 2) := dg_84.2.2.2.1
theorem dL_law_1190 : decode cL_law 1190 = .ok (.goto 104, 3) := dg_84.2.2.2.2.1
theorem dL_law_1193 : decode cL_law 1193 = .ok (.aload_n 1, 1) := dg_84.2.2.2.2.2.1
theorem dL_law_1194 : decode cL_law 1194 = .ok (.aload_n 0, 1) := dg_84.2.2.2.2.2.2.1
theorem dL_law_1195 : decode cL_law 1195 = .ok (.iload 5, 2) := dg_84.2.2.2.2.2.2.2
theorem dg_85 : (decode cL_law 1197 = .ok (.iconst 1, 1)) ∧ (decode cL_law 1198 = .ok (.iadd, 1)) ∧ (decode cL_law 1199 = .ok (.iaload, 1)) ∧ (decode cL_law 1200 = .ok (.aload_n 3, 1)) ∧ (decode cL_law 1201 = .ok (.invokestatic 247, 3)) ∧ (decode cL_law 1204 = .ok (.istore 6, 2)) ∧ (decode cL_law 1206 = .ok (.aload_n 2, 1)) ∧ (decode cL_law 1207 = .ok (.aload_n 0, 1)) := by decide +kernel
theorem dL_law_1197 : decode cL_law 1197 = .ok (.iconst 1, 1) := dg_85.1
theorem dL_law_1198 : decode cL_law 1198 = .ok (.iadd, 1) := dg_85.2.1
theorem dL_law_1199 : decode cL_law 1199 = .ok (.iaload, 1) := dg_85.2.2.1
theorem dL_law_1200 : decode cL_law 1200 = .ok (.aload_n 3, 1) := dg_85.2.2.2.1
theorem dL_law_1201 : decode cL_law 1201 = .ok (.invokestatic 247, 3) := dg_85.2.2.2.2.1
theorem dL_law_1204 : decode cL_law 1204 = .ok (.istore 6, 2) := dg_85.2.2.2.2.2.1
theorem dL_law_1206 : decode cL_law 1206 = .ok (.aload_n 2, 1) := dg_85.2.2.2.2.2.2.1
theorem dL_law_1207 : decode cL_law 1207 = .ok (.aload_n 0, 1) := dg_85.2.2.2.2.2.2.2
theorem dg_86 : (decode cL_law 1208 = .ok (.iload 5, 2)) ∧ (decode cL_law 1210 = .ok (.iconst 1, 1)) ∧ (decode cL_law 1211 = .ok (.iadd, 1)) ∧ (decode cL_law 1212 = .ok (.iaload, 1)) ∧ (decode cL_law 1213 = .ok (.invokevirtual 249, 3)) ∧ (decode cL_law 1216 = .ok (.istore 7, 2)) ∧ (decode cL_law 1218 = .ok (.aload_n 2, 1)) ∧ (decode cL_law 1219 = .ok (.invokevirtual 250, 3)) := by decide +kernel
theorem dL_law_1208 : decode cL_law 1208 = .ok (.iload 5, 2) := dg_86.1
theorem dL_law_1210 : decode cL_law 1210 = .ok (.iconst 1, 1) := dg_86.2.1
theorem dL_law_1211 : decode cL_law 1211 = .ok (.iadd, 1) := dg_86.2.2.1
theorem dL_law_1212 : decode cL_law 1212 = .ok (.iaload, 1) := dg_86.2.2.2.1
theorem dL_law_1213 : decode cL_law 1213 = .ok (.invokevirtual 249, 3) := dg_86.2.2.2.2.1
theorem dL_law_1216 : decode cL_law 1216 = .ok (.istore 7, 2) := dg_86.2.2.2.2.2.1
theorem dL_law_1218 : decode cL_law 1218 = .ok (.aload_n 2, 1) := dg_86.2.2.2.2.2.2.1
theorem dL_law_1219 : decode cL_law 1219 = .ok (.invokevirtual 250, 3) := dg_86.2.2.2.2.2.2.2
theorem dg_87 : (decode cL_law 1222 = .ok (.iload 6, 2)) ∧ (decode cL_law 1224 = .ok (.if_icmp .eq 5, 3)) ∧ (decode cL_law 1229 = .ok (.iload 6, 2)) ∧ (decode cL_law 1231 = .ok (.ifCond .ne 15, 3)) ∧ (decode cL_law 1234 = .ok (.aload_n 3, 1)) ∧ (decode cL_law 1235 = .ok (.iconst 0, 1)) ∧ (decode cL_law 1236 = .ok (.laload, 1)) ∧ (decode cL_law 1237 = .ok (.iload 7, 2)) := by decide +kernel
theorem dL_law_1222 : decode cL_law 1222 = .ok (.iload 6, 2) := dg_87.1
theorem dL_law_1224 : decode cL_law 1224 = .ok (.if_icmp .eq 5, 3) := dg_87.2.1
theorem dL_law_1229 : decode cL_law 1229 = .ok (.iload 6, 2) := dg_87.2.2.1
theorem dL_law_1231 : decode cL_law 1231 = .ok (.ifCond .ne 15, 3) := dg_87.2.2.2.1
theorem dL_law_1234 : decode cL_law 1234 = .ok (.aload_n 3, 1) := dg_87.2.2.2.2.1
theorem dL_law_1235 : decode cL_law 1235 = .ok (.iconst 0, 1) := dg_87.2.2.2.2.2.1
theorem dL_law_1236 : decode cL_law 1236 = .ok (.laload, 1) := dg_87.2.2.2.2.2.2.1
theorem dL_law_1237 : decode cL_law 1237 = .ok (.iload 7, 2) := dg_87.2.2.2.2.2.2.2
theorem dg_88 : (decode cL_law 1239 = .ok (.i2l, 1)) ∧ (decode cL_law 1240 = .ok (.lcmp, 1)) ∧ (decode cL_law 1241 = .ok (.ifCond .eq 5, 3)) ∧ (decode cL_law 1246 = .ok (.goto 48, 3)) ∧ (decode cL_law 1249 = .ok (.aload_n 1, 1)) ∧ (decode cL_law 1250 = .ok (.aload_n 3, 1)) ∧ (decode cL_law 1251 = .ok (.invokestatic 253, 3)) ∧ (decode cL_law 1254 = .ok (.istore 6, 2)) := by decide +kernel
theorem dL_law_1239 : decode cL_law 1239 = .ok (.i2l, 1) := dg_88.1
theorem dL_law_1240 : decode cL_law 1240 = .ok (.lcmp, 1) := dg_88.2.1
theorem dL_law_1241 : decode cL_law 1241 = .ok (.ifCond .eq 5, 3) := dg_88.2.2.1
theorem dL_law_1246 : decode cL_law 1246 = .ok (.goto 48, 3) := dg_88.2.2.2.1
theorem dL_law_1249 : decode cL_law 1249 = .ok (.aload_n 1, 1) := dg_88.2.2.2.2.1
theorem dL_law_1250 : decode cL_law 1250 = .ok (.aload_n 3, 1) := dg_88.2.2.2.2.2.1
theorem dL_law_1251 : decode cL_law 1251 = .ok (.invokestatic 253, 3) := dg_88.2.2.2.2.2.2.1
theorem dL_law_1254 : decode cL_law 1254 = .ok (.istore 6, 2) := dg_88.2.2.2.2.2.2.2
theorem dg_89 : (decode cL_law 1256 = .ok (.aload_n 2, 1)) ∧ (decode cL_law 1257 = .ok (.invokevirtual 255, 3)) ∧ (decode cL_law 1260 = .ok (.istore 7, 2)) ∧ (decode cL_law 1262 = .ok (.goto 32, 3)) ∧ (decode cL_law 1265 = .ok (.aload_n 1, 1)) ∧ (decode cL_law 1266 = .ok (.invokevirtual 256, 3)) ∧ (decode cL_law 1269 = .ok (.pop, 1)) ∧ (decode cL_law 1270 = .ok (.aload_n 2, 1)) := by decide +kernel
theorem dL_law_1256 : decode cL_law 1256 = .ok (.aload_n 2, 1) := dg_89.1
theorem dL_law_1257 : decode cL_law 1257 = .ok (.invokevirtual 255, 3) := dg_89.2.1
theorem dL_law_1260 : decode cL_law 1260 = .ok (.istore 7, 2) := dg_89.2.2.1
theorem dL_law_1262 : decode cL_law 1262 = .ok (.goto 32, 3) := dg_89.2.2.2.1
theorem dL_law_1265 : decode cL_law 1265 = .ok (.aload_n 1, 1) := dg_89.2.2.2.2.1
theorem dL_law_1266 : decode cL_law 1266 = .ok (.invokevirtual 256, 3) := dg_89.2.2.2.2.2.1
theorem dL_law_1269 : decode cL_law 1269 = .ok (.pop, 1) := dg_89.2.2.2.2.2.2.1
theorem dL_law_1270 : decode cL_law 1270 = .ok (.aload_n 2, 1) := dg_89.2.2.2.2.2.2.2
theorem dg_90 : (decode cL_law 1271 = .ok (.invokevirtual 259, 3)) ∧ (decode cL_law 1274 = .ok (.pop, 1)) ∧ (decode cL_law 1275 = .ok (.goto 19, 3)) ∧ (decode cL_law 1278 = .ok (.aload_n 1, 1)) ∧ (decode cL_law 1279 = .ok (.aload_n 3, 1)) ∧ (decode cL_law 1280 = .ok (.invokestatic 260, 3)) ∧ (decode cL_law 1283 = .ok (.istore 6, 2)) ∧ (decode cL_law 1285 = .ok (.aload_n 2, 1)) := by decide +kernel
theorem dL_law_1271 : decode cL_law 1271 = .ok (.invokevirtual 259, 3) := dg_90.1
theorem dL_law_1274 : decode cL_law 1274 = .ok (.pop, 1) := dg_90.2.1
theorem dL_law_1275 : decode cL_law 1275 = .ok (.goto 19, 3) := dg_90.2.2.1
theorem dL_law_1278 : decode cL_law 1278 = .ok (.aload_n 1, 1) := dg_90.2.2.2.1
theorem dL_law_1279 : decode cL_law 1279 = .ok (.aload_n 3, 1) := dg_90.2.2.2.2.1
theorem dL_law_1280 : decode cL_law 1280 = .ok (.invokestatic 260, 3) := dg_90.2.2.2.2.2.1
theorem dL_law_1283 : decode cL_law 1283 = .ok (.istore 6, 2) := dg_90.2.2.2.2.2.2.1
theorem dL_law_1285 : decode cL_law 1285 = .ok (.aload_n 2, 1) := dg_90.2.2.2.2.2.2.2
theorem dg_91 : (decode cL_law 1286 = .ok (.invokevirtual 262, 3)) ∧ (decode cL_law 1289 = .ok (.istore 7, 2)) ∧ (decode cL_law 1291 = .ok (.goto 3, 3)) ∧ (decode cL_law 1294 = .ok (.iinc 5 4, 3)) ∧ (decode cL_law 1297 = .ok (.goto (-1269), 3)) ∧ (decode cL_law 1300 = .ok (.iconst 1, 1)) ∧ (decode cL_law 1301 = .ok (.ireturn, 1)) := by decide +kernel
theorem dL_law_1286 : decode cL_law 1286 = .ok (.invokevirtual 262, 3) := dg_91.1
theorem dL_law_1289 : decode cL_law 1289 = .ok (.istore 7, 2) := dg_91.2.1
theorem dL_law_1291 : decode cL_law 1291 = .ok (.goto 3, 3) := dg_91.2.2.1
theorem dL_law_1294 : decode cL_law 1294 = .ok (.iinc 5 4, 3) := dg_91.2.2.2.1
theorem dL_law_1297 : decode cL_law 1297 = .ok (.goto (-1269), 3) := dg_91.2.2.2.2.1
theorem dL_law_1300 : decode cL_law 1300 = .ok (.iconst 1, 1) := dg_91.2.2.2.2.2.1
theorem dL_law_1301 : decode cL_law 1301 = .ok (.ireturn, 1) := dg_91.2.2.2.2.2.2
